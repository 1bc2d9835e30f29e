set_option maxRecDepth 16384
/-! One more in a list; train. -/
/-- the list's new end, without what it costs -/
def zadx (h : zH) (k k2 i2 : Nat) : zH := zsn (zsr h k 0 (zln h k 0) (some (k2, i2))) k 0 (zln h k 0 + 1)
theorem zladd_e {h : zH} {k k2 i2 : Nat} (hn : zln h k 0 < 33) : ∃ c n, c ≤ 1 ∧ n ≤ 33 ∧ zladd h k 0 k2 i2 = zro (zadx h k k2 i2) c n := by
  have hz : zcap (zln h k 0 + 1) ≤ 33 := by
    unfold zcap
    repeat' split
    all_goals omega
  unfold zladd
  split
  · exact ⟨1, _, Nat.le_refl _, hz, rfl⟩
  · exact ⟨0, 0, by omega, by omega, rfl⟩
theorem zel_t {h : zH} {k : Nat} (K : Nat) (hk : ztg K = 0 ∧ zkc K = zel k) (hr : ∀ j, j < zln h k 0 → zr h k 0 j = some (K, j)) : zelB h k 0 = true := by
  unfold zelB
  rw [List.all_eq_true]
  intro j hj
  rw [hr j (List.mem_range.mp hj)]
  show (ztg K == 0 && zkc K == zel k) = true
  rw [hk.1, hk.2]
  simp only [BEq.rfl, Bool.and_self]
theorem zr_s {h : zH} {k i j : Nat} {v : zq} : zr (zsr h k i j v) k i j = v := if_pos ⟨rfl, rfl, rfl⟩
theorem zr_j {h : zH} {k i j i' j' : Nat} {v : zq} (e : j' ≠ j) : zr (zsr h k i j v) k i' j' = zr h k i' j' := if_neg fun z => e z.2.2
theorem znw_i {h : zH} {k n sl i j : Nat} (e : i ≠ zct h k) : zi (znw h k n sl) k i j = zi h k i j := if_neg fun z => e z.2
theorem zln_s {h : zH} {k i n : Nat} : zln (zsn h k i n) k i = n := if_pos ⟨rfl, rfl⟩
theorem zct_n {h : zH} {k n sl : Nat} : zct (znw h k n sl) k = zct h k + 1 := if_pos rfl
/-- a new train -/
def ztrn (h : zH) (x : Int) : zH := zsi (zsi (znw h 11 0 2) 11 (zct h 11) 1 (zE (-1))) 11 (zct h 11) 0 (zE x)
theorem ztrn_C {h : zH} {s : zS} {x : Int} (hC : zCl h s) : zCl (zadx (ztrn h x) 18 11 (zct h 11)) (zup (zup (zup s 59 (s 58 0) x) 60 (s 58 0) (-1)) 58 0 (s 58 0 + 1)) := by
  obtain ⟨c1, c2, c3, c4, c5, c6, c7, c8, c9, c10, c11, c12, c13, c14⟩ := hC
  obtain ⟨n1, n2, n3, n4, n5, n6, n7, n8, n9, n10, n11, n12, n13⟩ := c14
  obtain ⟨⟨t0, t1⟩, t2⟩ := c7
  have hk : ∀ P : Nat → Prop, ¬ P 11 → ¬ P 18 → zKp P h (zadx (ztrn h x) 18 11 (zct h 11)) := fun P p1 p2 k hp => by
    have q1 : k ≠ 11 := fun z => p1 (z ▸ hp)
    have q2 : k ≠ 18 := fun z => p2 (z ▸ hp)
    refine ⟨if_neg q1, ?_, ?_, ?_, ?_, ?_⟩
    · funext i
      exact (if_neg fun z => q2 z.1).trans (if_neg fun z => q1 z.1)
    · funext i j
      exact (if_neg fun z => q1 z.1).trans ((if_neg fun z => q1 z.1).trans (if_neg fun z => q1 z.1))
    · funext i j
      exact (if_neg fun z => q2 z.1).trans (if_neg fun z => q1 z.1)
    · funext i j
      exact if_neg fun z => q1 z.1
    · funext i j
      exact if_neg fun z => q1 z.1
  have e58 : zup (zup (zup s 59 (s 58 0) x) 60 (s 58 0) (-1)) 58 0 (s 58 0 + 1) 58 0 = s 58 0 + 1 := zup_s
  refine ⟨c1, c2, c3, c4, c5, c6, ⟨⟨t0, ?_⟩, fun u u0 u1 => ?_⟩, c8, c9, c10, c11, c12, zCM_w c13 (hk _ (by decide) (by decide)) rfl rfl rfl rfl, n1, n2, n3, n4, n5, n6, n7, n8, n9, n10, ?_, n12, n13⟩
  · rw [e58]
    have : zln (zadx (ztrn h x) 18 11 (zct h 11)) 18 0 = zln h 18 0 + 1 := zln_s (h := zsr (ztrn h x) 18 0 (zln h 18 0) (some (11, zct h 11)))
    omega
  · rw [e58] at u1
    have f59 : zup (zup (zup s 59 (s 58 0) x) 60 (s 58 0) (-1)) 58 0 (s 58 0 + 1) 59 u = zup s 59 (s 58 0) x 59 u := (zup_j (by decide)).trans (zup_j (by decide))
    have f60 : zup (zup (zup s 59 (s 58 0) x) 60 (s 58 0) (-1)) 58 0 (s 58 0 + 1) 60 u = zup (zup s 59 (s 58 0) x) 60 (s 58 0) (-1) 60 u := zup_j (by decide)
    rw [f59, f60]
    by_cases e : u = s 58 0
    · have eu : u.toNat = zct h 11 := by omega
      have el : u.toNat = zln h 18 0 := by omega
      rw [e, zup_s, zup_s, ← e]
      refine ⟨?_, ?_, ?_⟩
      · show zr (zsr (ztrn h x) 18 0 (zln h 18 0) (some (11, zct h 11))) 18 0 u.toNat = _
        rw [el, zr_s, ← el, eu]
      · show zi (ztrn h x) 11 u.toNat 0 = _
        rw [eu]
        exact zi_s
      · show zi (ztrn h x) 11 u.toNat 1 = _
        rw [eu]
        exact (zi_j (by decide)).trans zi_s
    · obtain ⟨p0, p1, p2⟩ := t2 u u0 (by omega)
      have eu : u.toNat ≠ zct h 11 := by omega
      have el : u.toNat ≠ zln h 18 0 := by omega
      rw [zup_a e, zup_a e, zup_j (by decide)]
      refine ⟨?_, ?_, ?_⟩
      · show zr (zsr (ztrn h x) 18 0 (zln h 18 0) (some (11, zct h 11))) 18 0 u.toNat = _
        rw [zr_j el]
        exact p0
      · show zi (ztrn h x) 11 u.toNat 0 = _
        exact (zi_i eu).trans ((zi_i eu).trans ((znw_i eu).trans p1))
      · show zi (ztrn h x) 11 u.toNat 1 = _
        exact (zi_i eu).trans ((zi_i eu).trans ((znw_i eu).trans p2))
  · rw [e58]
    have : zct (zadx (ztrn h x) 18 11 (zct h 11)) 11 = zct h 11 + 1 := zct_n (h := h) (k := 11) (n := 0) (sl := 2)
    omega
