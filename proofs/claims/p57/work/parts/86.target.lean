set_option maxRecDepth 16384
/-! target: both sides. -/
def zadg (h : zH) (k i k2 i2 : Nat) : zH := zsn (zsr h k i (zln h k i) (some (k2, i2))) k i (zln h k i + 1)
theorem zladd_g {h : zH} {k i k2 i2 : Nat} (hn : zln h k i < 33) : ∃ c n, c ≤ 1 ∧ n ≤ 33 ∧ zladd h k i k2 i2 = zro (zadg h k i k2 i2) c n := by
  have hz : zcap (zln h k i + 1) ≤ 33 := by
    unfold zcap
    repeat' split
    all_goals omega
  unfold zladd
  split
  · exact ⟨1, _, Nat.le_refl _, hz, rfl⟩
  · exact ⟨0, 0, by omega, by omega, rfl⟩
theorem zel_g {h : zH} {k i : Nat} (K : Nat) (hk : ztg K = 0 ∧ zkc K = zel k) (hr : ∀ j, j < zln h k i → ∃ m, zr h k i j = some (K, m)) : zelB h k i = true := by
  unfold zelB
  rw [List.all_eq_true]
  intro j hj
  obtain ⟨m, hm⟩ := hr j (List.mem_range.mp hj)
  rw [hm]
  show (ztg K == 0 && zkc K == zel k) = true
  rw [hk.1, hk.2]
  simp only [BEq.rfl, Bool.and_self]
theorem zln_i {h : zH} {k i n i' : Nat} (e : i' ≠ i) : zln (zsn h k i n) k i' = zln h k i' := if_neg fun z => e z.2
def ztgH (h : zH) (a b c d : Int) : zH := zsi (zsi (zsi (zsi (znw h 6 0 4) 6 (zct h 6) 0 (zE a)) 6 (zct h 6) 1 (zE b)) 6 (zct h 6) 2 (zE c)) 6 (zct h 6) 3 (zE d)
def ztgS (s : zS) (f a b c d : Int) : zS := zup (zup (zup (zup (zup s 66 (4 * f + s 65 f) a) 67 (4 * f + s 65 f) b) 68 (4 * f + s 65 f) c) 69 (4 * f + s 65 f) d) 65 f (s 65 f + 1)
section ZTG
variable {s : zS} {f a b c d u : Int}
theorem ztgS_65 : ztgS s f a b c d 65 u = if u = f then s 65 f + 1 else s 65 u := by
  show zup s 65 f (s 65 f + 1) 65 u = _
  exact zif_u
theorem ztgS_66 : ztgS s f a b c d 66 u = if u = 4 * f + s 65 f then a else s 66 u := by
  show zup s 66 (4 * f + s 65 f) a 66 u = _
  exact zif_u
theorem ztgS_67 : ztgS s f a b c d 67 u = if u = 4 * f + s 65 f then b else s 67 u := by
  show zup s 67 (4 * f + s 65 f) b 67 u = _
  exact zif_u
theorem ztgS_68 : ztgS s f a b c d 68 u = if u = 4 * f + s 65 f then c else s 68 u := by
  show zup s 68 (4 * f + s 65 f) c 68 u = _
  exact zif_u
theorem ztgS_69 : ztgS s f a b c d 69 u = if u = 4 * f + s 65 f then d else s 69 u := by
  show zup s 69 (4 * f + s 65 f) d 69 u = _
  exact zif_u
end ZTG
theorem ztg_k {h : zH} {a b c d : Int} {f : Nat} (P : Nat → Prop) (p1 : ¬ P 6) (p2 : ¬ P 20) : zKp P h (zadg (ztgH h a b c d) 20 f 6 (zct h 6)) :=
  ((((((zKp_w p1).tr (zKp_i p1)).tr (zKp_i p1)).tr (zKp_i p1)).tr (zKp_i p1)).tr (zKp_r p2)).tr (zKp_n p2)
theorem ztgH_C {h : zH} {s : zS} {f a b c d : Int} (hC : zCl h s) (hW : zWf s) (f0 : 0 ≤ f) (f1 : f < 8) (h4 : s 65 f < 4) : zCl (zadg (ztgH h a b c d) 20 f.toNat 6 (zct h 6)) (ztgS s f a b c d) := by
  have hG := hW.2.2.2.2.2.2.2.2.1
  obtain ⟨c1, c2, c3, c4, c5, c6, c7, c8, c9, c10, c11, c12, c13, c14⟩ := hC
  obtain ⟨n1, n2, n3, n4, n5, n6, n7, n8, n9, n10, n11, n12, n13⟩ := c14
  have hl : (zln h 20 f.toNat : Int) = s 65 f := zCgN c11 f0 f1
  have h65 := hG.1 f f0 f1
  have hz : ∀ i j, i ≠ zct h 6 → zi (zadg (ztgH h a b c d) 20 f.toNat 6 (zct h 6)) 6 i j = zi h 6 i j := fun i j e => by
    show zi (ztgH h a b c d) 6 i j = _
    exact (zi_i e).trans ((zi_i e).trans ((zi_i e).trans ((zi_i e).trans (znw_i e))))
  have hy : ∀ u j, zr (zadg (ztgH h a b c d) 20 f.toNat 6 (zct h 6)) 20 u j = zr (zsr (ztgH h a b c d) 20 f.toNat (zln h 20 f.toNat) (some (6, zct h 6))) 20 u j := fun u j => rfl
  have hct : zct (zadg (ztgH h a b c d) 20 f.toNat 6 (zct h 6)) 6 = zct h 6 + 1 := zct_n (h := h) (k := 6) (n := 0) (sl := 4)
  refine ⟨c1, c2, c3, c4, c5, c6, c7, c8, c9, c10, ⟨c11.1, fun u u0 u1 => ?_⟩, c12, zCM_w c13 (ztg_k _ (by decide) (by decide)) rfl rfl rfl rfl, n1, n2, n3, n4, n5, n6, n7, n8, n9, n10, n11, n12, fun u x u0 u1 x0 x1 i hi => ?_⟩
  · obtain ⟨p0, p1, p2, p3, p4, p5, p6, p7, p8⟩ := c11.2 u u0 u1
    have hu := hG.1 u u0 u1
    refine ⟨p0, p1, p2, p3, p4, p5, p6, ?_, fun x x0 x1 => ?_⟩
    · rw [ztgS_65]
      by_cases e : u = f
      · subst e
        rw [if_pos rfl]
        have : zln (zadg (ztgH h a b c d) 20 u.toNat 6 (zct h 6)) 20 u.toNat = zln h 20 u.toNat + 1 := zln_s (h := zsr (ztgH h a b c d) 20 u.toNat (zln h 20 u.toNat) (some (6, zct h 6)))
        omega
      · rw [if_neg e]
        have : zln (zadg (ztgH h a b c d) 20 f.toNat 6 (zct h 6)) 20 u.toNat = zln h 20 u.toNat := zln_i (h := zsr (ztgH h a b c d) 20 f.toNat (zln h 20 f.toNat) (some (6, zct h 6))) (by omega)
        rw [this]
        exact p7
    · rw [ztgS_65] at x1
      rw [ztgS_66, ztgS_67, ztgS_68, ztgS_69]
      by_cases e : u = f ∧ x = s 65 f
      · obtain ⟨rfl, rfl⟩ := e
        refine ⟨zct h 6, ?_, ?_, ?_, ?_, ?_⟩
        · rw [hy, show (s 65 u).toNat = zln h 20 u.toNat by omega]
          exact zr_s
        · rw [if_pos rfl]
          show zi (ztgH h a b c d) 6 (zct h 6) 0 = _
          exact (zi_j (by decide)).trans ((zi_j (by decide)).trans ((zi_j (by decide)).trans zi_s))
        · rw [if_pos rfl]
          show zi (ztgH h a b c d) 6 (zct h 6) 1 = _
          exact (zi_j (by decide)).trans ((zi_j (by decide)).trans zi_s)
        · rw [if_pos rfl]
          show zi (ztgH h a b c d) 6 (zct h 6) 2 = _
          exact (zi_j (by decide)).trans zi_s
        · rw [if_pos rfl]
          show zi (ztgH h a b c d) 6 (zct h 6) 3 = _
          exact zi_s
      · have x2 : x < s 65 u := by
          by_cases e2 : u = f
          · rw [if_pos e2] at x1
            have : ¬ x = s 65 f := fun z => e ⟨e2, z⟩
            subst e2
            omega
          · rwa [if_neg e2] at x1
        obtain ⟨i, i1, i2, i3, i4, i5⟩ := p8 x x0 x2
        have hi := n13 u x u0 u1 x0 x2 i i1
        have ne : ¬ 4 * u + x = 4 * f + s 65 f := fun z => by
          by_cases e2 : u = f
          · exact e ⟨e2, by omega⟩
          · omega
        rw [if_neg ne, if_neg ne, if_neg ne, if_neg ne]
        refine ⟨i, ?_, (hz i 0 (by omega)).trans i2, (hz i 1 (by omega)).trans i3, (hz i 2 (by omega)).trans i4, (hz i 3 (by omega)).trans i5⟩
        rw [hy]
        by_cases e2 : u = f
        · subst e2
          exact (zr_j (by omega)).trans i1
        · exact (zr_i (by omega)).trans i1
  · rw [ztgS_65] at x1
    rw [hct]
    rw [hy] at hi
    by_cases e : u = f ∧ x = s 65 f
    · obtain ⟨rfl, rfl⟩ := e
      rw [show (s 65 u).toNat = zln h 20 u.toNat by omega, zr_s] at hi
      have : zct h 6 = i := by injection hi with hi; injection hi
      omega
    · have x2 : x < s 65 u := by
        by_cases e2 : u = f
        · rw [if_pos e2] at x1
          have : ¬ x = s 65 f := fun z => e ⟨e2, z⟩
          subst e2
          omega
        · rwa [if_neg e2] at x1
      have hi2 : zr h 20 u.toNat x.toNat = some (6, i) := by
        by_cases e2 : u = f
        · subst e2
          rwa [zr_j (by omega)] at hi
        · rwa [zr_i (by omega)] at hi
      have := n13 u x u0 u1 x0 x2 i hi2
      omega
theorem ztgS_W {s : zS} {f a b c d : Int} (hW : zWf s) (f0 : 0 ≤ f) (f1 : f < 8) (h4 : s 65 f < 4) (ha : 0 ≤ a ∧ a ≤ 2) (hb : 0 ≤ b ∧ b ≤ 1) (hc : 0 ≤ c ∧ c ≤ 6) (hd : 0 ≤ d ∧ d ≤ 100) : zWf (ztgS s f a b c d) := by
  obtain ⟨wA, wK, wC, wD, wP, wR, wZ, wT, wG, wE, wM, wX⟩ := hW
  refine ⟨wA, wK, wC, wD, wP, wR, wZ, wT, ⟨fun u u0 u1 => ?_, wG.2⟩, wE, wM, wX⟩
  obtain ⟨g1, g2, g3, g4, g5, g6⟩ := wG.1 u u0 u1
  have hf := (wG.1 f f0 f1).2.2.2.2.1
  refine ⟨g1, g2, g3, g4, ?_, fun x x0 x1 => ?_⟩
  · rw [ztgS_65]
    by_cases e : u = f
    · rw [if_pos e]; omega
    · rw [if_neg e]; exact g5
  · rw [ztgS_65] at x1
    rw [ztgS_66, ztgS_67, ztgS_68, ztgS_69]
    by_cases e : 4 * u + x = 4 * f + s 65 f
    · simp only [if_pos e]
      exact ⟨ha, hb, hc, hd⟩
    · simp only [if_neg e]
      refine g6 x x0 ?_
      by_cases e2 : u = f
      · rw [if_pos e2] at x1
        subst e2
        omega
      · rwa [if_neg e2] at x1
/-- die -/
theorem zw_12_12 {h : zH} {s : zS} {x : Int} (hC : zCl h s) : zCl (zsi h 12 0 12 (zE x)) (zup s 44 0 x) := by
  obtain ⟨c1, c2, c3, c4, c5, c6, c7, c8, c9, c10, c11, c12, c13, c14⟩ := hC
  obtain ⟨b1, b2, b3, b4, b5, b6, b7⟩ := c2
  exact ⟨c1, ⟨(zi_j (by decide)).trans b1, (zi_j (by decide)).trans b2, (zi_j (by decide)).trans b3, (zi_j (by decide)).trans b4, (zi_j (by decide)).trans b5, (zi_j (by decide)).trans b6, fun _ => zi_s.trans (congrArg zE zup_s.symm)⟩, c3, c4, c5, c6, c7, c8, c9, c10, c11, c12, zCM_w c13 (zKp_i (by decide)) rfl rfl rfl rfl, c14⟩
