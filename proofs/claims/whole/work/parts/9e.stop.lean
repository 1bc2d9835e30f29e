set_option maxRecDepth 16384
/-! stop: both sides. -/
noncomputable def zcoS (s t : zS) (i : Int) : zS := zup (zup (zup t 45 0 (t 45 0 + zcn1 (zoth3 s t i))) 47 (2 * i) (zitp (zoth2 s t i) 0 (t 47 (2 * i)))) 47 (2 * i + 1) (zitp (zoth2 s t i) 0 (t 47 (2 * i + 1)))
noncomputable def zco (s t : zS) : Nat → zS
  | 0 => t
  | n + 1 => zcoS s (zco s t n) n
theorem zco_i {s t : zS} {i : Int} (i0 : 0 ≤ i) : zco s t (i + 1).toNat = zcoS s (zco s t i.toNat) i := by
  rw [show (i + 1).toNat = i.toNat + 1 by omega]
  show zcoS s _ (i.toNat : Int) = _
  rw [Int.toNat_of_nonneg i0]
theorem zco_j {s t : zS} : ∀ n : Nat, (∀ j, j ≠ 45 → j ≠ 47 → zco s t n j = t j) ∧ (zco s t n 45 0 = t 45 0 + zcnt (zoth3 s t) n ∧ ∀ u, u ≠ 0 → zco s t n 45 u = t 45 u) ∧ ∀ u, zco s t n 47 u = if 0 ≤ u ∧ u < 2 * n then zitp (zoth2 s t (u / 2)) 0 (t 47 u) else t 47 u
  | 0 => ⟨fun _ _ _ => rfl, ⟨(Int.add_zero _).symm, fun _ _ => rfl⟩, fun u => (if_neg (by omega)).symm⟩
  | n + 1 => by
    obtain ⟨p1, ⟨p2, p3⟩, p4⟩ := zco_j (s := s) (t := t) n
    have e12 := p1 12 (by decide) (by decide)
    have e13 := p1 13 (by decide) (by decide)
    have e14 := p1 14 (by decide) (by decide)
    have o2 : ∀ u, zoth2 s (zco s t n) u = zoth2 s t u := fun u => by
      unfold zoth2
      rw [e12, e13]
    have o3 : ∀ u, zoth3 s (zco s t n) u = zoth3 s t u := fun u => by
      unfold zoth3
      rw [o2, e14]
    refine ⟨fun j h h1 => ?_, ⟨?_, fun u hu => ?_⟩, fun u => ?_⟩
    · rw [← p1 j h h1]
      funext u
      exact (zup_j h1).trans ((zup_j h1).trans (zup_j h))
    · show zcoS s (zco s t n) n 45 0 = t 45 0 + (zcnt (zoth3 s t) n + zcn1 (zoth3 s t n))
      unfold zcoS
      rw [zup_j (by decide), zup_j (by decide), zup_s, p2, o3, Int.add_assoc]
    · show zcoS s (zco s t n) n 45 u = _
      unfold zcoS
      rw [zup_j (by decide), zup_j (by decide), zup_a hu, p3 u hu]
    · show zup (zup (zup (zco s t n) 45 0 (zco s t n 45 0 + zcn1 (zoth3 s (zco s t n) n))) 47 (2 * n) (zitp (zoth2 s (zco s t n) n) 0 (zco s t n 47 (2 * n)))) 47 (2 * n + 1) (zitp (zoth2 s (zco s t n) n) 0 (zco s t n 47 (2 * n + 1))) 47 u = _
      rw [zif_u, zif_u, zup_j (by decide), o2, p4, p4, p4]
      by_cases c1 : u = 2 * (n : Int) + 1
      · rw [if_pos c1, if_neg (by omega), if_pos (by omega), show u / 2 = (n : Int) by omega, c1]
      · rw [if_neg c1]
        by_cases c2 : u = 2 * (n : Int)
        · rw [if_pos c2, if_neg (by omega), if_pos (by omega), show u / 2 = (n : Int) by omega, c2]
        · rw [if_neg c2]
          by_cases c3 : 0 ≤ u ∧ u < 2 * (n : Int)
          · rw [if_pos c3, if_pos (by omega)]
          · rw [if_neg c3, if_neg (by omega)]
theorem zcnt_ap {P : Int → Prop} (m : Nat) : ∀ k : Nat, zcnt P (m + k) = zcnt P m + zcnt (fun u => P ((m : Int) + u)) k
  | 0 => (Int.add_zero _).symm
  | k + 1 => by
    show zcnt P (m + k) + zcn1 (P ((m + k : Nat) : Int)) = zcnt P m + (zcnt (fun u => P ((m : Int) + u)) k + zcn1 (P ((m : Int) + (k : Int))))
    rw [zcnt_ap m k, Int.add_assoc, show ((m + k : Nat) : Int) = (m : Int) + (k : Int) by omega]
theorem zcnt_3 {P : Int → Prop} {v : Int} (v0 : 0 ≤ v) (v1 : v < 4) (ho : ∀ u, 0 ≤ u → u < 12 → ¬ (3 * v ≤ u ∧ u < 3 * v + 3) → ¬ P u) : zcnt P 12 = zcnt (fun u => P (3 * v + u)) 3 := by
  have e : (12 : Nat) = ((3 * v).toNat + 3) + (9 - 3 * v).toNat := by omega
  have h1 : zcnt P (3 * v).toNat = 0 := (zcnt_0 _).mpr fun ⟨u, u0, u1, u2⟩ => ho u u0 (by omega) (by omega) u2
  have h2 : zcnt (fun u => P ((((3 * v).toNat + 3 : Nat) : Int) + u)) (9 - 3 * v).toNat = 0 := (zcnt_0 _).mpr fun ⟨u, u0, u1, u2⟩ => ho _ (by omega) (by omega) (by omega) u2
  rw [e, zcnt_ap, zcnt_ap, h1, h2, Int.zero_add, Int.add_zero, Int.toNat_of_nonneg (by omega)]
theorem zco_12 {s t : zS} (ho : ∀ u, ¬ (0 ≤ u ∧ u < 12) → ¬ zoth2 s t u) : zco s t 12 = zup (zmid s t) 45 0 (t 45 0 + zcnt (zoth3 s t) 12) := by
  obtain ⟨p1, ⟨p2, p3⟩, p4⟩ := zco_j (s := s) (t := t) 12
  funext j u
  by_cases c : j = 45
  · subst c
    by_cases d : u = 0
    · subst d
      rw [p2, zup_s]
    · rw [p3 u d, zup_a d, zmid_j (by decide)]
  · rw [zup_j c]
    by_cases d : j = 47
    · subst d
      rw [p4, zmid_47]
      by_cases f : 0 ≤ u ∧ u < 2 * ((12 : Nat) : Int)
      · rw [if_pos f]
      · rw [if_neg f, zitp_f (ho _ (by omega))]
    · rw [p1 j c d, zmid_j d]
theorem zco_W {s t : zS} {c : Int} (hW : zWf t) : zWf (zup (zmid s t) 45 0 c) := by
  obtain ⟨wA, wK, wC, wD, wP, wR, wZ, wT, wG, wE, wM, wX⟩ := hW
  refine ⟨wA, wK, wC, wD, wP, wR, wZ, wT, wG, wE, ⟨wM.1, fun w w0 w1 => ?_⟩, wX⟩
  obtain ⟨a1, a2⟩ := wM.2 w w0 w1
  have h6 := wM.1
  have e : zup (zmid s t) 45 0 c 47 w = zitp (zoth2 s t (w / 2)) 0 (t 47 w) := zmid_47
  have e46 : zup (zmid s t) 45 0 c 46 0 = t 46 0 := rfl
  rw [e, e46]
  by_cases d : zoth2 s t (w / 2)
  · rw [zitp_t d]
    exact ⟨by omega, fun x x0 x1 => by omega⟩
  · rw [zitp_f d]
    exact ⟨a1, a2⟩
/-- the model counts -/
theorem zp174 {h : zH} {s t : zS} (hM : zMd h t) (hK : zWk s) (hn : s 2 0 ≤ 30) (tK : zWk t) (tn : t 2 0 ≤ 30) (e : ∀ u : Int, 0 ≤ u → u < 12 → t 15 u = s 12 u ∧ t 16 u = s 13 u ∧ t 17 u = s 14 u) : ∃ h', zm174 (some (13, 0)) h = some (.inl (), h') ∧ zMd h' (zco s t 12) ∧ zfrM h h' := by
  have z1 : ¬ zE 1 = zE 0 := by decide
  rw [zm174, zE_0]
  refine zloop0 (W := fun n i hx => zm174_2 n (some (13, 0)) (zE i) hx) (N := 12) (fun i hx => zMd hx (zco s t i.toNat) ∧ zfrM h hx) (fun r => ∃ h', r = some (.inl (), h') ∧ zMd h' (zco s t 12) ∧ zfrM h h') h ⟨hM, zfrM.rf⟩ (by omega) (by omega) ?_ ?_
  · intro n hx ⟨q1, q2⟩
    refine ⟨hx, ?_, q1, q2⟩
    rw [zm174_2, if_pos (by rw [zE_12]; exact Int32.le_refl _)]
  · intro n i hx i0 i1 ⟨q1, q2⟩
    have n3 : ¬ (12 : Int32) ≤ zE i := by rw [zE_12, zE_le (by omega) (by omega) (by omega) (by omega)]; omega
    obtain ⟨p1, -, -⟩ := zco_j (s := s) (t := t) i.toNat
    obtain ⟨f1, f2, f3⟩ := e i i0 i1
    have e12 := p1 12 (by decide) (by decide)
    have e13 := p1 13 (by decide) (by decide)
    have e14 := p1 14 (by decide) (by decide)
    have e15 := p1 15 (by decide) (by decide)
    have e16 := p1 16 (by decide) (by decide)
    have e17 := p1 17 (by decide) (by decide)
    have b1 := hK i i0 i1
    have b2 := tK i i0 i1
    have x1 : (zE (t 12 i) = zE (s 12 i)) = (t 12 i = s 12 i) := zE_inj (by omega) (by omega) (by omega) (by omega)
    have x2 : (zE (t 13 i) = zE (s 13 i)) = (t 13 i = s 13 i) := zE_inj (by omega) (by omega) (by omega) (by omega)
    have x3 : (zE (t 14 i) = zE (s 14 i)) = (t 14 i = s 14 i) := zE_inj (by omega) (by omega) (by omega) (by omega)
    have o2 : zoth2 s (zco s t i.toNat) i ↔ ¬ (t 12 i = s 12 i ∧ t 13 i = s 13 i) := by
      unfold zoth2
      rw [e12, e13]
      exact Classical.not_and_iff_not_or_not.symm
    have o3 : zoth3 s (zco s t i.toNat) i ↔ ¬ (t 12 i = s 12 i ∧ t 13 i = s 13 i) ∨ ¬ t 14 i = s 14 i := by
      unfold zoth3
      rw [o2, e14]
    refine Or.inr ?_
    show ∃ x', (zMd x' (zco s t (i + 1).toNat) ∧ zfrM h x') ∧ zm174_2 (n + 1) (some (13, 0)) (zE i) hx = zm174_2 n (some (13, 0)) (zE (i + 1)) x'
    -- the flag
    have A : ∃ b, zbo b (zoth2 s (zco s t i.toNat) i) ∧ zm174_2 (n + 1) (some (13, 0)) (zE i) hx = zm174_26 (zm174_2 n) (some (13, 0)) (zE i) (zE b) hx := by
      by_cases c1 : t 12 i = s 12 i
      · by_cases c2 : t 13 i = s 13 i
        · refine ⟨0, zbo_0 (fun z => o2.mp z ⟨c1, c2⟩), ?_⟩
          rw [zm174_2, if_neg n3, zM_ob, zMi12 q1 i0 i1, zMi15 q1 i0 i1, e12, e15, f1, if_pos (x1.mpr c1), zMi13 q1 i0 i1, zMi16 q1 i0 i1, e13, e16, f2, if_pos (x2.mpr c2), zE_0]
        · refine ⟨1, zbo_1 (o2.mpr fun z => c2 z.2), ?_⟩
          rw [zm174_2, if_neg n3, zM_ob, zMi12 q1 i0 i1, zMi15 q1 i0 i1, e12, e15, f1, if_pos (x1.mpr c1), zMi13 q1 i0 i1, zMi16 q1 i0 i1, e13, e16, f2, if_neg (fun z => c2 (x2.mp z)), zE_1]
      · refine ⟨1, zbo_1 (o2.mpr fun z => c1 z.1), ?_⟩
        rw [zm174_2, if_neg n3, zM_ob, zMi12 q1 i0 i1, zMi15 q1 i0 i1, e12, e15, f1, if_neg (fun z => c1 (x1.mp z)), zE_1]
    obtain ⟨b, b3, A⟩ := A
    have B : zm174_26 (zm174_2 n) (some (13, 0)) (zE i) (zE b) hx = zm174_44 (zm174_2 n) (some (13, 0)) (zE i) (zE b) (some (13, 0)) (zE (zco s t i.toNat 45 0)) (zE (zcn1 (zoth3 s (zco s t i.toNat) i))) hx := by
      rcases b3 with ⟨rfl, b3⟩ | ⟨rfl, b3⟩
      · rw [zm174_26, zM_ob, zE_0, if_neg z1, zMs45 q1, zcn1_t (show zoth3 s (zco s t i.toNat) i from Or.inl b3), zE_1]
      · rw [zm174_26, zM_ob, zE_0, if_pos rfl, zMi14 q1 i0 i1, zMi17 q1 i0 i1, e14, e17, f3, zMs45 q1]
        by_cases c : t 14 i = s 14 i
        · rw [if_pos (x3.mpr c), zcn1_f (fun z => (o3.mp z).elim (fun z => b3 (o2.mpr z)) (fun z => z c))]
        · rw [if_neg (fun z => c (x3.mp z)), zcn1_t (o3.mpr (Or.inr c)), zE_1]
    rw [A, B]
    have m1 : zMd (zsi hx 13 0 45 (zE (zco s t i.toNat 45 0 + zcn1 (zoth3 s (zco s t i.toNat) i)))) (zup (zco s t i.toNat) 45 0 (zco s t i.toNat 45 0 + zcn1 (zoth3 s (zco s t i.toNat) i))) := q1.ws 45 (by decide) _
    have m2 := m1.wa (47, 147, 24) (by decide) (2 * i) (zitp (zoth2 s (zco s t i.toNat) i) 0 (zco s t i.toNat 47 (2 * i))) (by omega)
    have m3 := m2.wa (47, 147, 24) (by decide) (2 * i + 1) (zitp (zoth2 s (zco s t i.toNat) i) 0 (zco s t i.toNat 47 (2 * i + 1))) (by omega)
    have g1 : zup (zco s t i.toNat) 45 0 (zco s t i.toNat 45 0 + zcn1 (zoth3 s (zco s t i.toNat) i)) 47 (2 * i) = zco s t i.toNat 47 (2 * i) := rfl
    have g2 : zup (zup (zco s t i.toNat) 45 0 (zco s t i.toNat 45 0 + zcn1 (zoth3 s (zco s t i.toNat) i))) 47 (2 * i) (zitp (zoth2 s (zco s t i.toNat) i) 0 (zco s t i.toNat 47 (2 * i))) 47 (2 * i + 1) = zco s t i.toNat 47 (2 * i + 1) := zup_a (by omega)
    have ez : zup (zup (zup (zco s t i.toNat) 45 0 (zco s t i.toNat 45 0 + zcn1 (zoth3 s (zco s t i.toNat) i))) 47 (2 * i) (zitp (zoth2 s (zco s t i.toNat) i) 0 (zco s t i.toNat 47 (2 * i)))) 47 (2 * i + 1) (zitp (zoth2 s (zco s t i.toNat) i) 0 (zco s t i.toNat 47 (2 * i + 1))) = zco s t (i + 1).toNat := (zco_i i0).symm
    have hN : zMd (zsi (zsi (zsi hx 13 0 45 (zE (zco s t i.toNat 45 0 + zcn1 (zoth3 s (zco s t i.toNat) i)))) 147 0 (2 * i).toNat (zE (zitp (zoth2 s (zco s t i.toNat) i) 0 (zco s t i.toNat 47 (2 * i))))) 147 0 (2 * i + 1).toNat (zE (zitp (zoth2 s (zco s t i.toNat) i) 0 (zco s t i.toNat 47 (2 * i + 1))))) (zco s t (i + 1).toNat) := ez ▸ m3
    refine ⟨_, ⟨hN, q2.tr ((zfrM_i (Or.inl rfl)).tr ((zfrM_i (Or.inr (by decide))).tr (zfrM_i (Or.inr (by decide)))))⟩, ?_⟩
    have hz : ∀ x : Int, zitp (zoth2 s (zco s t i.toNat) i) 0 x = if b = 1 then 0 else x := fun x => zitp_b b3
    rcases b3 with ⟨rfl, b3⟩ | ⟨rfl, b3⟩
    · rw [zm174_44, zM_ob, zlet_s, zE_add, zM_ob, zE_0, if_neg z1, zE_2, zE_mul, zm174_61, zMa47 m1 (by omega) (by omega), zlet_s, zM_ob, zE_0, if_neg z1, zE_2, zE_mul, zE_1, zE_add, zm174_81]
      rw [zitp_t b3, zitp_t b3]
      rw [zitp_t b3] at m2
      rw [zMa47 m2 (by omega) (by omega), zlet_s, zlet_s, zE_1, zE_add]
    · rw [zm174_44, zM_ob, zlet_s, zE_add, zM_ob, zE_0, if_pos rfl, zE_2, zE_mul, zMi47 m1 (by omega) (by omega), g1, zm174_61, zMa47 m1 (by omega) (by omega), zlet_s, zM_ob, zE_0, if_pos rfl, zE_2, zE_mul, zE_1, zE_add]
      rw [zitp_f b3] at m2 g2 ⊢
      rw [zMi47 m2 (by omega) (by omega), g2, zm174_81, zMa47 m2 (by omega) (by omega), zlet_s, zlet_s, zE_1, zE_add, zitp_f b3]
/-- the class counts -/
theorem zc60 {h : zH} {s t : zS} {v : Int} (hC : zClM h s t) (v0 : 0 ≤ v) (v1 : v < 4) (ho : ∀ u, ¬ (3 * v ≤ u ∧ u < 3 * v + 3) → ¬ zoth3 s t u) : ∃ h', zm60 (some (12, 0)) (some (9, v.toNat)) h = some (.inl (), h') ∧ zCl h' (zco s t 12) ∧ zfrC h h' := by
  have z1 : ¬ zE 1 = zE 0 := by decide
  rw [zco_12 (fun u hu z => ho u (by omega) (Or.inl z)), zcnt_3 v0 v1 (fun u _ _ hu => ho u hu)]
  rw [zm60, zE_0]
  refine zloop0 (W := fun n i hx => zm60_2 n (some (12, 0)) (some (9, v.toNat)) (zE i) hx) (N := 3) (fun i hx => zCl (zfl hx) (zup (zmid s t) 45 0 (t 45 0 + zcnt (fun u => zoth3 s t (3 * v + u)) i.toNat)) ∧ (∀ k : Int, 0 ≤ k → k < 12 → zi hx 10 k.toNat 3 = if 3 * v ≤ k ∧ k < 3 * v + i then 0 else zE (zcn1 (zoth3 s t k))) ∧ zfrC h hx) (fun r => ∃ h', r = some (.inl (), h') ∧ zCl h' (zup (zmid s t) 45 0 (t 45 0 + zcnt (fun u => zoth3 s t (3 * v + u)) 3)) ∧ zfrC h h') h ⟨?_, fun k k0 k1 => by rw [if_neg (by omega)]; exact hC.2 k k0 k1, zfrC.rf⟩ (by omega) (by omega) ?_ ?_
  · rw [zup_id (by rw [zmid_j (by decide)]; exact (Int.add_zero _).symm)]
    exact hC.1
  · intro n hx ⟨q1, q2, q3⟩
    refine ⟨hx, ?_, zfl_D q1 (fun k k0 k1 => ?_), q3⟩
    · rw [zm60_2, if_pos (by rw [zE_3]; exact Int32.le_refl _)]
    · rw [q2 k k0 k1]
      by_cases c : 3 * v ≤ k ∧ k < 3 * v + 3
      · rw [if_pos c]
      · rw [if_neg c, zcn1_f (ho k c)]
        exact zE_0.symm
  · intro n i hx i0 i1 ⟨q1, q2, q3⟩
    have n3 : ¬ (3 : Int32) ≤ zE i := by rw [zE_3, zE_le (by omega) (by omega) (by omega) (by omega)]; omega
    have cV : zCV hx (zup (zmid s t) 45 0 (t 45 0 + zcnt (fun u => zoth3 s t (3 * v + u)) i.toNat)) := q1.2.2.2.2.2.2.2.2.1
    have f := q2 (3 * v + i) (by omega) (by omega)
    rw [if_neg (by omega)] at f
    have g : zi hx 12 0 14 = zE (t 45 0 + zcnt (fun u => zoth3 s t (3 * v + u)) i.toNat) := by
      have cs : zCs hx (zup (zmid s t) 45 0 (t 45 0 + zcnt (fun u => zoth3 s t (3 * v + u)) i.toNat)) := q1.2.1
      have := zCs14 cs
      rwa [zup_s] at this
    have en : zcnt (fun u => zoth3 s t (3 * v + u)) (i + 1).toNat = zcnt (fun u => zoth3 s t (3 * v + u)) i.toNat + zcn1 (zoth3 s t (3 * v + i)) := by
      rw [show (i + 1).toNat = i.toNat + 1 by omega]
      show _ + zcn1 (zoth3 s t (3 * v + (i.toNat : Int))) = _
      rw [Int.toNat_of_nonneg i0]
    refine Or.inr ?_
    show ∃ x', (zCl (zfl x') (zup (zmid s t) 45 0 (t 45 0 + zcnt (fun u => zoth3 s t (3 * v + u)) (i + 1).toNat)) ∧ (∀ k : Int, 0 ≤ k → k < 12 → zi x' 10 k.toNat 3 = if 3 * v ≤ k ∧ k < 3 * v + (i + 1) then 0 else zE (zcn1 (zoth3 s t k))) ∧ zfrC h x') ∧ zm60_2 (n + 1) (some (12, 0)) (some (9, v.toNat)) (zE i) hx = zm60_2 n (some (12, 0)) (some (9, v.toNat)) (zE (i + 1)) x'
    rw [en, zm60_2, if_neg n3, zo_9, zLKa cV v0 v1 i0 i1, zo_10, f]
    by_cases c : zoth3 s t (3 * v + i)
    · rw [zcn1_t c, zE_0, if_neg z1, zo_12, g, zE_1, zE_add, zlet_s, zlet_s, zm60_22, zlet_s, zE_1, zE_add]
      refine ⟨_, ⟨?_, ?_, q3.tr ((zfrC_i (by unfold zpc1; decide)).tr (zfrC_i (by unfold zpc1; decide)))⟩, rfl⟩
      · have w := zw_12_14 (x := t 45 0 + zcnt (fun u => zoth3 s t (3 * v + u)) i.toNat + 1) q1
        have e2 : zup (zup (zmid s t) 45 0 (t 45 0 + zcnt (fun u => zoth3 s t (3 * v + u)) i.toNat)) 45 0 (t 45 0 + zcnt (fun u => zoth3 s t (3 * v + u)) i.toNat + 1) = zup (zmid s t) 45 0 (t 45 0 + (zcnt (fun u => zoth3 s t (3 * v + u)) i.toNat + 1)) := by
          funext j u
          unfold zup
          by_cases d : j = 45 ∧ u = 0
          · rw [if_pos d, if_pos d, Int.add_assoc]
          · rw [if_neg d, if_neg d, if_neg d]
        rw [e2] at w
        rw [zfl_sf, zfl_si (by decide)]
        exact w
      · intro k k0 k1
        by_cases d : k = 3 * v + i
        · rw [if_pos (by omega), d]
          exact zi_s.trans zE_0.symm
        · rw [zi_i (by omega)]
          show zi hx 10 k.toNat 3 = _
          rw [q2 k k0 k1]
          by_cases d2 : 3 * v ≤ k ∧ k < 3 * v + i
          · rw [if_pos d2, if_pos (by omega)]
            exact zE_0
          · rw [if_neg d2, if_neg (by omega)]
    · rw [zcn1_f c, zE_0, if_pos rfl, Int.add_zero, zm60_22, zlet_s, zE_1, zE_add]
      refine ⟨hx, ⟨q1, ?_, q3⟩, rfl⟩
      intro k k0 k1
      rw [q2 k k0 k1]
      by_cases d : k = 3 * v + i
      · rw [d, if_neg (by omega), if_pos (by omega), zcn1_f c]
      · by_cases d2 : 3 * v ≤ k ∧ k < 3 * v + i
        · rw [if_pos d2, if_pos (by omega)]
          exact zE_0
        · rw [if_neg d2, if_neg (by omega)]
theorem zr_stop (x : Int32) : zPrI (fun h => zm55 (some (12, 0)) x h) (fun h => zm161 (some (13, 0)) x h) (fun t => if t = 1 then 2 else 1) 2 := by
  intro h s hC hM hW
  obtain ⟨r, rfl, x1, x2⟩ := zE_ex x
  have z1 : ¬ zE 1 = zE 0 := by decide
  have hC0 := hC
  have hW0 := hW
  have cr : zCr h := hC.1
  have cR : zCR h s := hC.2.2.2.2.1
  have wR := hW.2.2.2.2.2.1
  have h20 := wR.1
  have p143 : ∀ h', zMd h' s → ∃ b, zbo b (0 ≤ r ∧ r < s 30 0) ∧ zm143 (some (13, 0)) (zE r) h' = some (.inl (zE b), h') := fun h' hM' => zp143 hM' wR x1 x2
  by_cases q : 0 ≤ r ∧ r < s 30 0
  · have p143 : ∀ h', zMd h' s → zm143 (some (13, 0)) (zE r) h' = some (.inl (zE 1), h') := fun h' hM' => by
      obtain ⟨b, b1, b2⟩ := p143 h' hM'
      rwa [b1.u (zbo_1 q)] at b2
    have hb := wR.2.2 r q.1 q.2
    by_cases d : 1 < s 33 r
    · refine zexI (t := 2) hC0 hW0 (by omega) (by omega) ?_ (fun h' hM' => ?_)
      · obtain ⟨b, b1, b2⟩ := zc10 cR wR q.1 q.2
        rw [b1.u (zbo_1 d)] at b2
        show zm55 (some (12, 0)) (zE r) h = some (.inr 1, zro h 1 6)
        rw [zm55, zo_12, zLRz cr cR, zc130 x1 x2 (by omega) (by omega), if_pos q, zb_s, zLRg cr cR (by omega) q.1 q.2, zo_5, b2, zb_s, zE_0, if_neg z1]
      · obtain ⟨b, b1, b2⟩ := zp156 hM' wR q.1 q.2
        rw [b1.u (zbo_1 d)] at b2
        show zm161 (some (13, 0)) (zE r) h' = _
        rw [zm161, zM_ob, p143 h' hM', zb_s, zE_0, if_neg z1, b2, zb_s, if_neg z1, zm161_14, zM_ob, zlet_s, zM_ob, zE_2, zE_0, if_neg (by rw [zi_s, zE_le (by omega) (by omega) (by omega) (by omega)]; omega)]
    · have a0 := hb.1
      have v0 := (hW.1.2 _ a0.1 a0.2).1
      obtain ⟨f1, f2, f3⟩ := zre_j (s := s) 12
      have hCs : zCl h (zre s 12) := hC.sc zre_sc
      have hWs : zWf (zre s 12) := hW.sc zre_sc
      have e2 := f1 2 (by decide) (by decide) (by decide) (by decide)
      have e3 := f1 3 (by decide) (by decide) (by decide) (by decide)
      have e30 := f1 30 (by decide) (by decide) (by decide) (by decide)
      have e31 := f1 31 (by decide) (by decide) (by decide) (by decide)
      have ev : zre s 12 3 (s 31 r) = s 3 (s 31 r) := by rw [e3]
      have ea : zre s 12 31 r = s 31 r := by rw [e31]
      have r1 : r < zre s 12 30 0 := by rw [e30]; exact q.2
      have a1 : s 31 r < zre s 12 2 0 := by rw [e2]; exact a0.2
      have hn := hWs.1.1
      obtain ⟨h1, c1, C1, F1⟩ := zc58 (zClM_0 hCs rfl rfl rfl) hWs.1 hWs.2.1 a0.1 a1 ev
      obtain ⟨w1, w12, wo1⟩ := zlos_w (a := s 31 r) hWs.2.1 v0.1 v0.2 a0.1 hn.1 3 (Nat.le_refl _)
      obtain ⟨h2, c2, C2, F2⟩ := zc56_8 (k := zm56_24) C1 hWs w1 w12 q.1 r1 (v := s 3 (s 31 r)) (by rw [ea]; exact ev)
      obtain ⟨w2, w13, w14, wo2⟩ := zgb_w w1 hWs.1 hWs.2.2.2.2.2.1 q.1 r1 (v := s 3 (s 31 r)) (by rw [ea]; exact ev) 3 (Nat.le_refl _)
      generalize ht1 : zlos (zre s 12) (s 31 r) (s 3 (s 31 r)) 3 = t1 at *
      generalize ht2 : zgb t1 r 3 = t2 at *
      have W2 : zWf t2 := zWf_mw hWs w2
      have g30 : t2 30 = s 30 := (w2.1 30 (by decide) (by decide) (by decide)).trans e30
      have g31 : t2 31 = s 31 := (w2.1 31 (by decide) (by decide) (by decide)).trans e31
      have r2 : r < t2 30 0 := by rw [g30]; exact q.2
      obtain ⟨h3, c3, C3, F3⟩ := zc59 (e := 3) C2 W2 q.1 r2 (a := s 31 r) (by rw [g31]) (by omega)
      have W3 : zWf (zen t2 r (s 31 r) 3 (t2 30 0).toNat) := zen_W W2 q.1 r2 (by omega) _ (by omega)
      have xj : ∀ j, j ≠ 33 ∧ j ≠ 34 ∧ j ≠ 35 ∧ j ≠ 37 → zen t2 r (s 31 r) 3 (t2 30 0).toNat j = t2 j := fun j z => zen_j z.1 z.2.1 z.2.2.1 z.2.2.2 _
      generalize ht3 : zen t2 r (s 31 r) 3 (t2 30 0).toNat = t3 at *
      have y12 := xj 12 (by decide)
      have y13 := xj 13 (by decide)
      have y14 := xj 14 (by decide)
      have ho : ∀ u, ¬ (3 * s 3 (s 31 r) ≤ u ∧ u < 3 * s 3 (s 31 r) + 3) → ¬ zoth3 (zre s 12) t3 u := fun u hu => by
        obtain ⟨o1, o2⟩ := wo1 u hu
        have o3 := wo2 u hu
        unfold zoth3 zoth2
        rw [y12, y13, y14, o3, w12, w13, w14, o1, o2]
        rintro ((z | z) | z) <;> exact z rfl
      obtain ⟨h4, c4, C4, F4⟩ := zc60 C3 v0.1 v0.2 ho
      have F := ((F1.tr F2).tr F3).tr F4
      have W4 : zWf (zco (zre s 12) t3 12) := by
        rw [zco_12 (fun u hu z => ho u (by omega) (Or.inl z))]
        exact zco_W W3
      refine zokI (v := zgc t1 r 3) (by omega) W4 (h1 := h4) ?_ C4 F.1 (by rw [F.2.1]; omega) (by rw [F.2.2]; omega) (fun h' hM' => ?_)
      · obtain ⟨b, b1, b2⟩ := zc10 cR wR q.1 q.2
        rw [b1.u (zbo_0 d)] at b2
        have cr3 : zCr h3 := C3.1.1
        have cA3 : zCA h3 t3 := C3.1.2.2.1
        have cR3 : zCR h3 t3 := C3.1.2.2.2.2.1
        have cV3 : zCV h3 t3 := C3.1.2.2.2.2.2.2.2.2.1
        have k30 : t3 30 = s 30 := (xj 30 (by decide)).trans g30
        have k31 : t3 31 = s 31 := (xj 31 (by decide)).trans g31
        have k2 : t3 2 = s 2 := (xj 2 (by decide)).trans ((w2.1 2 (by decide) (by decide) (by decide)).trans e2)
        have k3 : t3 3 = s 3 := (xj 3 (by decide)).trans ((w2.1 3 (by decide) (by decide) (by decide)).trans e3)
        have g1 : zr h3 5 r.toNat 0 = some (0, (s 31 r).toNat) := by
          have := zCrA cR3 q.1 (by rw [k30]; exact q.2)
          rwa [k31] at this
        have g2 : zi h3 0 (s 31 r).toNat 1 = zE (s 3 (s 31 r)) := by
          have := zCa1 cA3 a0.1 (by rw [k2]; exact a0.2)
          rwa [k3] at this
        have e56 : zm56 (some (12, 0)) (some (5, r.toNat)) h = some (.inl (zE (zgc t1 r 3)), h3) := by
          rw [zm56, zo_5, zo_12, zCrA cR q.1 q.2, c1, zb_s, zE_0, c2, zm56_24, zo_12, zE_3, c3, zb_s]
        show zm55 (some (12, 0)) (zE r) h = some (.inl (zE (zgc t1 r 3)), h4)
        rw [zm55, zo_12, zLRz cr cR, zc130 x1 x2 (by omega) (by omega), if_pos q, zb_s, zLRg cr cR (by omega) q.1 q.2, zo_5, b2, zb_s, zE_0, if_pos rfl, e56, zb_s, g1, zo_0, g2, zLVa cr3 cV3 v0.1 v0.2, c4, zb_s]
      · obtain ⟨b, b1, b2⟩ := zp156 hM' wR q.1 q.2
        rw [b1.u (zbo_0 d)] at b2
        have M0 : zMd (zsi h' 13 0 0 (zE 0)) (zup s 0 0 0) := hM'.ws 0 (by decide) 0
        obtain ⟨h1', d1, M1, G1⟩ := zp173 M0
        obtain ⟨h2', d2, M2, G2⟩ := zp175 M1 hWs.1 hWs.2.1 a0.1 a1 ev
        rw [ht1] at M2
        obtain ⟨h3', d3, M3, G3⟩ := zp178_12 (k := zm178_78) M2 hWs w1 q.1 r1 ea ev
        rw [ht2] at M3
        obtain ⟨h4', d4, M4, G4⟩ := zp176 (e := 3) M3 W2 q.1 r2 (a := s 31 r) (by rw [g31]) (by omega)
        rw [ht3] at M4
        have k2 : t3 2 = zre s 12 2 := (xj 2 (by decide)).trans (w2.1 2 (by decide) (by decide) (by decide))
        have y15 := (xj 15 (by decide)).trans (w2.1 15 (by decide) (by decide) (by decide))
        have y16 := (xj 16 (by decide)).trans (w2.1 16 (by decide) (by decide) (by decide))
        have y17 := (xj 17 (by decide)).trans (w2.1 17 (by decide) (by decide) (by decide))
        have s12 := f1 12 (by decide) (by decide) (by decide) (by decide)
        have s13 := f1 13 (by decide) (by decide) (by decide) (by decide)
        have s14 := f1 14 (by decide) (by decide) (by decide) (by decide)
        obtain ⟨h5', d5, M5, G5⟩ := zp174 (s := zre s 12) M4 hWs.2.1 hn.2 W3.2.1 W3.1.1.2 (fun u u0 u1 => by
          rw [y15, y16, y17, s12, s13, s14]
          exact f3 u u0 u1)
        have G := (((zfrM_i (Or.inl rfl) : zfrM h' (zsi h' 13 0 0 (zE 0))).tr G1).tr (((G2.tr G3).tr G4).tr G5))
        refine ⟨_, zsc.rf, ?_, h5', ?_, M5, G⟩
        · rw [(zco_j 12).1 0 (by decide) (by decide), xj 0 (by decide), w2.1 0 (by decide) (by decide) (by decide)]
          exact f2
        · have e178 : zm178 (some (13, 0)) (zE r) h1' = some (.inl (zE (zgc t1 r 3)), h4') := by
            rw [zm178, zM_ob, zMi31 M1 q.1 (by omega), ea, d2, zb_s, zE_0, d3, zm178_78, zM_ob, zE_3, d4, zb_s]
          show zm161 (some (13, 0)) (zE r) h' = _
          rw [zm161, zM_ob, p143 h' hM', zb_s, zE_0, if_neg z1, b2, zb_s, if_pos rfl, zm161_14, zM_ob, zlet_s, zM_ob, zE_0, if_pos (by rw [zi_s]; exact Int32.le_refl _), d1, zb_s, e178, zb_s, d5, zb_s]
  · refine zexI (t := 1) hC0 hW0 (by omega) (by omega) ?_ (fun h' hM' => ?_)
    · show zm55 (some (12, 0)) (zE r) h = some (.inr 2, zro h 1 6)
      rw [zm55, zo_12, zLRz cr cR, zc130 x1 x2 (by omega) (by omega), if_neg q, zb_x]
    · obtain ⟨b, b1, b2⟩ := p143 h' hM'
      rw [b1.u (zbo_0 q)] at b2
      show zm161 (some (13, 0)) (zE r) h' = _
      rw [zm161, zM_ob, b2, zb_s, zE_0, if_pos rfl, zm161_14, zM_ob, zlet_s, zM_ob, zE_1, zE_0, if_neg (by rw [zi_s, zE_le (by omega) (by omega) (by omega) (by omega)]; omega)]
