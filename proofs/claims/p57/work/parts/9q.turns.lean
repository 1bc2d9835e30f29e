set_option maxRecDepth 16384
/-! Turns: both sides. -/
def ztuP (s : zS) (p i : Int) : Prop := s 10 (s 31 i) = p ∧ s 43 0 = 0 ∧ s 33 i = 0 ∧ zE (zrsn s i) = zE 0
noncomputable def ztuS (s : zS) (p i : Int) : zS := zits (ztuP s p i) (zttT s i) s
noncomputable def ztuB (s : zS) (p i : Int) : Int := zitp (ztuP s p i) (zttB s i) 0
noncomputable def ztuN (s : zS) (p : Int) : Nat → zS
  | 0 => s
  | n + 1 => ztuS (ztuN s p n) p n
noncomputable def ztuC (s : zS) (p : Int) : Nat → Int
  | 0 => 0
  | n + 1 => ztuC s p n + ztuB (ztuN s p n) p n
theorem ztuN_i {s : zS} {p i : Int} (i0 : 0 ≤ i) : ztuN s p (i + 1).toNat = ztuS (ztuN s p i.toNat) p i := by
  rw [show (i + 1).toNat = i.toNat + 1 by omega]
  show ztuS _ p (i.toNat : Int) = _
  rw [Int.toNat_of_nonneg i0]
theorem ztuC_i {s : zS} {p i : Int} (i0 : 0 ≤ i) : ztuC s p (i + 1).toNat = ztuC s p i.toNat + ztuB (ztuN s p i.toNat) p i := by
  rw [show (i + 1).toNat = i.toNat + 1 by omega]
  show _ + ztuB _ p (i.toNat : Int) = _
  rw [Int.toNat_of_nonneg i0]
theorem ztuS_W {s : zS} {p i : Int} (hW : zWf s) (i0 : 0 ≤ i) (i1 : i < s 30 0) : zWf (ztuS s p i) ∧ (s 0 0 = 0 → ztuS s p i 0 0 = 0) ∧ ∀ j, zjn j → j ≠ 43 → j ≠ 44 → ztuS s p i j = s j := by
  unfold ztuS
  by_cases c : ztuP s p i
  · rw [zits_t c]
    have c' := c
    unfold ztuP at c'
    exact ⟨ztt_W hW i0 i1 c'.2.2.1, ztt_j hW i0 i1 c'.2.2.1⟩
  · rw [zits_f c]
    exact ⟨hW, fun z => z, fun _ _ _ _ => rfl⟩
theorem ztuN_W {s : zS} {p : Int} (hW : zWf s) : ∀ n : Nat, n ≤ s 30 0 → zWf (ztuN s p n) ∧ (s 0 0 = 0 → ztuN s p n 0 0 = 0) ∧ ∀ j, zjn j → j ≠ 43 → j ≠ 44 → ztuN s p n j = s j
  | 0, _ => ⟨hW, fun z => z, fun _ _ _ _ => rfl⟩
  | n + 1, hn => by
    obtain ⟨a1, a2, a3⟩ := ztuN_W hW n (by omega)
    have e30 := a3 30 (by unfold zjn; decide) (by decide) (by decide)
    obtain ⟨b1, b2, b3⟩ := ztuS_W (p := p) (i := n) a1 (by omega) (by rw [e30]; omega)
    exact ⟨b1, fun z => b2 (a2 z), fun j h h1 h2 => (b3 j h h1 h2).trans (a3 j h h1 h2)⟩
theorem ztuN_st {s : zS} {p : Int} {n : Nat} (h : ztuN s p n 43 0 ≠ 0) : ∀ d : Nat, ztuN s p (n + d) = ztuN s p n ∧ ztuC s p (n + d) = ztuC s p n
  | 0 => ⟨rfl, rfl⟩
  | d + 1 => by
    obtain ⟨a1, a2⟩ := ztuN_st h d
    have c : ¬ ztuP (ztuN s p n) p ((n + d : Nat) : Int) := fun z => by
      unfold ztuP at z
      exact h z.2.1
    refine ⟨?_, ?_⟩
    · show ztuS (ztuN s p (n + d)) p ((n + d : Nat) : Int) = _
      rw [a1]
      exact zits_f c
    · show ztuC s p (n + d) + ztuB (ztuN s p (n + d)) p ((n + d : Nat) : Int) = _
      rw [a1, a2]
      unfold ztuB
      rw [zitp_f c, Int.add_zero]
/-- the class -/
theorem zc76 {h : zH} {s : zS} {p : Int} (hC : zCl h s) (hW : zWf s) (hp : p = 0 ∨ p = 1) : ∃ h', zm76 (some (12, 0)) (zE p) h = some (.inl (zE (ztuC s p (s 30 0).toNat)), h') ∧ zCl h' (ztuN s p (s 30 0).toNat) ∧ zfrC h h' := by
  have h20 := hW.2.2.2.2.2.1.1
  have z1 : ¬ zE 1 = zE 0 := by decide
  rw [zm76, zE_0]
  show ∃ h', zm76_4 zN0 (some (12, 0)) (zE p) (zE (ztuC s p (0 : Int).toNat)) (zE 0) h = _ ∧ _
  refine zloop0 (W := fun n i hx => zm76_4 n (some (12, 0)) (zE p) (zE (ztuC s p i.toNat)) (zE i) hx) (N := s 30 0) (fun i hx => zCl hx (ztuN s p i.toNat) ∧ zfrC h hx) (fun q => ∃ h', q = some (.inl (zE (ztuC s p (s 30 0).toNat)), h') ∧ zCl h' (ztuN s p (s 30 0).toNat) ∧ zfrC h h') h ⟨hC, zfrC.rf⟩ (by omega) (by omega) ?_ ?_
  · intro n hx ⟨q1, q2⟩
    obtain ⟨xW, -, xj⟩ := ztuN_W (p := p) hW (s 30 0).toNat (by omega)
    have e30 := xj 30 (by unfold zjn; decide) (by decide) (by decide)
    have cr : zCr hx := q1.1
    have cR := q1.2.2.2.2.1
    refine ⟨hx, ?_, q1, q2⟩
    rw [zm76_4, zo_12, zLRz cr cR, e30, if_pos (Int32.le_refl _)]
  · intro n i hx i0 i1 ⟨q1, q2⟩
    obtain ⟨xW, -, xj⟩ := ztuN_W (p := p) hW i.toNat (by omega)
    have e30 := xj 30 (by unfold zjn; decide) (by decide) (by decide)
    have st := ztuN_st (s := s) (p := p) (n := i.toNat)
    obtain ⟨t, ht⟩ : ∃ t, t = ztuN s p i.toNat := ⟨_, rfl⟩
    rw [← ht] at q1 xW xj e30 st
    have cr : zCr hx := q1.1
    have cs : zCs hx t := q1.2.1
    have cA : zCA hx t := q1.2.2.1
    have cR : zCR hx t := q1.2.2.2.2.1
    have i2 : i < t 30 0 := by rw [e30]; exact i1
    have n3 : ¬ zE (s 30 0) ≤ zE i := by rw [zE_le (by omega) (by omega) (by omega) (by omega)]; omega
    have wi := xW.2.2.2.2.2.1.2.2 i i0 i2
    have w10 := (xW.1.2 _ wi.1.1 wi.1.2).2.2.2.2.2.2.2.1
    have w43 := xW.2.2.2.2.2.2.2.2.2.2.2.1
    have go : zm76_4 (n + 1) (some (12, 0)) (zE p) (zE (ztuC s p i.toNat)) (zE i) hx = if zE (t 43 0) = 0 then (if zE (t 10 (t 31 i)) = zE p then (if zE (t 33 i) = 0 then zb (zm64 (some (12, 0)) (some (5, i.toNat)) hx) fun x53 h52 => if x53 = 0 then zb (zm77 (some (12, 0)) (some (5, i.toNat)) h52) fun x56 h55 => if x56 = 0 then zm76_35 (zm76_4 n) (some (12, 0)) (zE p) (zE (ztuC s p i.toNat)) (zE i) h55 else zlet (zE (ztuC s p i.toNat) + (1 : Int32)) fun x58 => zm76_35 (zm76_4 n) (some (12, 0)) (zE p) x58 (zE i) h55 else zm76_35 (zm76_4 n) (some (12, 0)) (zE p) (zE (ztuC s p i.toNat)) (zE i) h52 else zm76_35 (zm76_4 n) (some (12, 0)) (zE p) (zE (ztuC s p i.toNat)) (zE i) hx) else zm76_35 (zm76_4 n) (some (12, 0)) (zE p) (zE (ztuC s p i.toNat)) (zE i) hx) else some (.inl (zE (ztuC s p i.toNat)), hx) := by
      rw [zm76_4, zo_12, zLRz cr cR, e30, if_neg n3, zCs13 cs, zLRg cr cR (by rw [e30]; omega) i0 i2, zo_5, zCrA cR i0 i2, zo_0, zCa8 cA wi.1.1 wi.1.2, zCr2_ cR i0 i2]
    have nx : ∀ c : Int, ∀ hz, zm76_35 (zm76_4 n) (some (12, 0)) (zE p) (zE c) (zE i) hz = zm76_4 n (some (12, 0)) (zE p) (zE c) (zE (i + 1)) hz := fun c hz => by
      rw [zm76_35, zlet_s, zE_1, zE_add]
    by_cases c43 : t 43 0 = 0
    · refine Or.inr ?_
      show ∃ x', (zCl x' (ztuN s p (i + 1).toNat) ∧ zfrC h x') ∧ zm76_4 (n + 1) (some (12, 0)) (zE p) (zE (ztuC s p i.toNat)) (zE i) hx = zm76_4 n (some (12, 0)) (zE p) (zE (ztuC s p (i + 1).toNat)) (zE (i + 1)) x'
      rw [ztuN_i i0, ztuC_i i0, ← ht, go, c43, zE_0, if_pos rfl]
      have stay : ¬ ztuP t p i → ∃ x', (zCl x' (ztuS t p i) ∧ zfrC h x') ∧ zm76_35 (zm76_4 n) (some (12, 0)) (zE p) (zE (ztuC s p i.toNat)) (zE i) hx = zm76_4 n (some (12, 0)) (zE p) (zE (ztuC s p i.toNat + ztuB t p i)) (zE (i + 1)) x' := fun z => by
        unfold ztuS ztuB
        rw [zits_f z, zitp_f z, Int.add_zero]
        exact ⟨hx, ⟨q1, q2⟩, nx _ _⟩
      by_cases c10 : t 10 (t 31 i) = p
      · rw [if_pos (by rw [c10])]
        by_cases c33 : t 33 i = 0
        · rw [if_pos (by rw [c33]), zc64 q1 xW i0 i2 (by omega), zb_s]
          by_cases c0 : zE (zrsn t i) = zE 0
          · have hP : ztuP t p i := ⟨c10, c43, c33, c0⟩
            obtain ⟨h1, d1, d2, d3⟩ := zc77 q1 xW i0 i2 c33 c43
            rw [if_pos c0, d1, zb_s]
            unfold ztuS ztuB
            rw [zits_t hP, zitp_t hP]
            refine ⟨h1, ⟨d2, q2.tr d3⟩, ?_⟩
            rcases zttB_r (s := t) (r := i) with eB | eB
            · rw [eB, if_pos rfl, nx, Int.add_zero]
            · rw [eB, if_neg z1, zlet_s, zE_1, zE_add, nx]
          · rw [if_neg c0]
            exact stay (fun z => c0 z.2.2.2)
        · rw [if_neg (by rw [zE_inj (by omega) (by omega) (by omega) (by omega)]; exact c33)]
          exact stay (fun z => c33 z.2.2.1)
      · rw [if_neg (by rw [zE_inj (by omega) (by omega) (by omega) (by omega)]; exact c10)]
        exact stay (fun z => c10 z.1)
    · refine Or.inl ?_
      obtain ⟨s1, s2⟩ := st c43 ((s 30 0).toNat - i.toNat)
      rw [show i.toNat + ((s 30 0).toNat - i.toNat) = (s 30 0).toNat by omega] at s1 s2
      rw [s1, s2]
      refine ⟨hx, ?_, q1, q2⟩
      show zm76_4 (n + 1) (some (12, 0)) (zE p) (zE (ztuC s p i.toNat)) (zE i) hx = _
      rw [go, if_neg (by rw [zE_0, zE_inj (by omega) (by omega) (by omega) (by omega)]; exact c43)]
