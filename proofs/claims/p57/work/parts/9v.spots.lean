set_option maxRecDepth 16384
/-! The start: the class's spots, services and flags. -/
section ZLK
variable {h : zH} {k n sl k' i i' j j' : Nat} {v : Int32} {q : zq} {d : UInt64}
theorem lkn_c : zct (znw h k n sl) k' = if k' = k then zct h k + 1 else zct h k' := rfl
theorem lkn_l : zln (znw h k n sl) k' i' = if k' = k ∧ i' = zct h k then n else zln h k' i' := rfl
theorem lkn_i : zi (znw h k n sl) k' i' j' = if k' = k ∧ i' = zct h k then 0 else zi h k' i' j' := rfl
theorem lkn_r : zr (znw h k n sl) k' i' j' = if k' = k ∧ i' = zct h k then none else zr h k' i' j' := rfl
theorem lkn_d : zd (znw h k n sl) k' i' j' = if k' = k ∧ i' = zct h k then 0 else zd h k' i' j' := rfl
theorem lki_c : zct (zsi h k i j v) k' = zct h k' := rfl
theorem lki_l : zln (zsi h k i j v) k' i' = zln h k' i' := rfl
theorem lki_i : zi (zsi h k i j v) k' i' j' = if k' = k ∧ i' = i ∧ j' = j then v else zi h k' i' j' := rfl
theorem lki_r : zr (zsi h k i j v) k' i' j' = zr h k' i' j' := rfl
theorem lki_d : zd (zsi h k i j v) k' i' j' = zd h k' i' j' := rfl
theorem lkr_c : zct (zsr h k i j q) k' = zct h k' := rfl
theorem lkr_l : zln (zsr h k i j q) k' i' = zln h k' i' := rfl
theorem lkr_i : zi (zsr h k i j q) k' i' j' = zi h k' i' j' := rfl
theorem lkr_r : zr (zsr h k i j q) k' i' j' = if k' = k ∧ i' = i ∧ j' = j then q else zr h k' i' j' := rfl
theorem lkr_d : zd (zsr h k i j q) k' i' j' = zd h k' i' j' := rfl
theorem lkd_c : zct (zsd h k i j d) k' = zct h k' := rfl
theorem lkd_l : zln (zsd h k i j d) k' i' = zln h k' i' := rfl
theorem lkd_i : zi (zsd h k i j d) k' i' j' = zi h k' i' j' := rfl
theorem lkd_r : zr (zsd h k i j d) k' i' j' = zr h k' i' j' := rfl
theorem lkd_d : zd (zsd h k i j d) k' i' j' = if k' = k ∧ i' = i ∧ j' = j then d else zd h k' i' j' := rfl
theorem zif_T {α : Type} {f : Option α} [Decidable True] : zif True f = f := if_pos trivial
end ZLK
theorem zKp_nw {P : Nat → Prop} {h : zH} {k n sl : Nat} (hk : ¬ P k) : zKp P h (znw h k n sl) := fun k' hp => by
  have ne : ¬ k' = k := fun e => hk (e ▸ hp)
  refine ⟨?_, ?_, ?_, ?_, ?_, ?_⟩
  · rw [lkn_c, if_neg ne]
  · funext i; rw [lkn_l, if_neg (fun z => ne z.1)]
  · funext i j; rw [lkn_i, if_neg (fun z => ne z.1)]
  · funext i j; rw [lkn_r, if_neg (fun z => ne z.1)]
  · funext i j; rw [lkn_d, if_neg (fun z => ne z.1)]
  · funext i j; exact if_neg (fun z => ne z.1)
theorem zal_8 {α : Type} (f : Option α) : (if (8 : Int32) < 0 ∨ 100000 < (8 : Int32).toNatClampNeg then none else f) = f := if_neg (by decide)
theorem zal_17 {α : Type} (f : Option α) : (if (17 : Int32) < 0 ∨ 100000 < (17 : Int32).toNatClampNeg then none else f) = f := if_neg (by decide)
theorem zal_3 {α : Type} (f : Option α) : (if (3 : Int32) < 0 ∨ 100000 < (3 : Int32).toNatClampNeg then none else f) = f := if_neg (by decide)
theorem zal_200 {α : Type} (f : Option α) : (if (200 : Int32) < 0 ∨ 100000 < (200 : Int32).toNatClampNeg then none else f) = f := if_neg (by decide)
theorem zal_4 {α : Type} (f : Option α) : (if (4 : Int32) < 0 ∨ 100000 < (4 : Int32).toNatClampNeg then none else f) = f := if_neg (by decide)
theorem ztn_8 : (8 : Int32).toNatClampNeg = 8 := by decide
theorem ztn_17 : (17 : Int32).toNatClampNeg = 17 := by decide
theorem ztn_3 : (3 : Int32).toNatClampNeg = 3 := by decide
theorem ztn_200 : (200 : Int32).toNatClampNeg = 200 := by decide
theorem ztn_4 : (4 : Int32).toNatClampNeg = 4 := by decide
/-- a sample is made -/
def zsmH (h : zH) (K i a b : Nat) : zH := zsr (znw (zsr (znw h 30 8 8) K i 0 (some (30, a))) 31 17 17) K i 3 (some (31, b))
theorem zc17 {h : zH} {K i a b : Nat} (hK : K = 7 ∨ K = 8) (ca : zct h 30 = a) (cb : zct h 31 = b) : zm17 (some (K, i)) h = some (.inl (), zsmH h K i a b) := by
  have cb' : zct (zsr (znw h 30 8 8) K i 0 (some (30, a))) 31 = b := by rw [lkr_c, lkn_c, if_neg (by decide)]; exact cb
  rcases hK with rfl | rfl
  · rw [zm17, znn_s, zal_8, ztn_8, zlet_s, zo_7, zlet_s, ca, zal_17, ztn_17, zlet_s, zlet_s, cb']
    rfl
  · rw [zm17, znn_s, zal_8, ztn_8, zlet_s, zo_8, zlet_s, ca, zal_17, ztn_17, zlet_s, zlet_s, cb']
    rfl
/-- a spot is made -/
def zspH (h : zH) (n : Nat) : zH := zsr (zsmH (znw (zsr (zsmH (znw (zsd h 10 n 4 4607182418800017408) 7 0 4) 7 n (2 * n) (2 * n)) 10 n 5 (some (7, n))) 8 0 4) 8 n (2 * n + 1) (2 * n + 1)) 10 n 6 (some (8, n))
theorem zc27 {h : zH} {n : Nat} (c7 : zct h 7 = n) (c8 : zct h 8 = n) (c30 : zct h 30 = 2 * n) (c31 : zct h 31 = 2 * n) : zm27 (some (10, n)) h = some (.inl (), zspH h n) := by
  have a7 : zct (zsd h 10 n 4 4607182418800017408) 7 = n := c7
  have a30 : zct (znw (zsd h 10 n 4 4607182418800017408) 7 0 4) 30 = 2 * n := by rw [lkn_c, if_neg (by decide)]; exact c30
  have a31 : zct (znw (zsd h 10 n 4 4607182418800017408) 7 0 4) 31 = 2 * n := by rw [lkn_c, if_neg (by decide)]; exact c31
  have e1 := zc17 (i := n) (Or.inl rfl) a30 a31
  obtain ⟨H, hH⟩ : ∃ H, H = zsr (zsmH (znw (zsd h 10 n 4 4607182418800017408) 7 0 4) 7 n (2 * n) (2 * n)) 10 n 5 (some (7, n)) := ⟨_, rfl⟩
  have b8 : zct H 8 = n := by
    rw [hH]
    unfold zsmH
    simp only [lkn_c, lkr_c, lkd_c]
    exact c8
  have b30 : zct (znw H 8 0 4) 30 = 2 * n + 1 := by
    rw [hH]
    unfold zsmH
    simp only [lkn_c, lkr_c, lkd_c]
    rw [← c30]
    rfl
  have b31 : zct (znw H 8 0 4) 31 = 2 * n + 1 := by
    rw [hH]
    unfold zsmH
    simp only [lkn_c, lkr_c, lkd_c]
    rw [← c31]
    rfl
  have e2 := zc17 (i := n) (Or.inr rfl) b30 b31
  rw [zm27, znn_s, zo_10, zlet_s, zlet_s, a7, zo_7, e1, zb2_s, zlet_s, ← hH, zlet_s, b8, zo_8, e2, zb2_s, zlet_s]
  unfold zspH
  rw [hH]
def zF10 (h : zH) (k : Nat) : Prop := zr h 10 k 0 = none ∧ zr h 10 k 1 = none ∧ zi h 10 k 2 = 0 ∧ zi h 10 k 3 = 0 ∧ zd h 10 k 4 = 4607182418800017408 ∧ zr h 10 k 5 = some (7, k) ∧ zr h 10 k 6 = some (8, k)
def zFsm (h : zH) (K k a : Nat) : Prop := zr h K k 0 = some (30, a) ∧ zln h 30 a = 8 ∧ zi h K k 1 = 0 ∧ zi h K k 2 = 0 ∧ zr h K k 3 = some (31, a) ∧ zln h 31 a = 17 ∧ ∀ j, zi h 31 a j = 0
def zPK (n : Nat) (h : zH) : Prop := (zct h 10 = n ∧ zct h 7 = n ∧ zct h 8 = n ∧ zct h 30 = 2 * n ∧ zct h 31 = 2 * n) ∧ ∀ k, k < n → zF10 h k ∧ zFsm h 7 k (2 * k) ∧ zFsm h 8 k (2 * k + 1)
theorem zPK.kp {n : Nat} {h h' : zH} (hP : zPK n h) (e : ∀ k, (k = 7 ∨ k = 8 ∨ k = 10 ∨ k = 30 ∨ k = 31) → zct h' k = zct h k ∧ zln h' k = zln h k ∧ zi h' k = zi h k ∧ zr h' k = zr h k ∧ zd h' k = zd h k ∧ zl h' k = zl h k) : zPK n h' := by
  obtain ⟨a1, a2, a3, a4, a5, -⟩ := e 7 (by decide)
  obtain ⟨b1, b2, b3, b4, b5, -⟩ := e 8 (by decide)
  obtain ⟨c1, c2, c3, c4, c5, -⟩ := e 10 (by decide)
  obtain ⟨d1, d2, d3, d4, d5, -⟩ := e 30 (by decide)
  obtain ⟨f1, f2, f3, f4, f5, -⟩ := e 31 (by decide)
  unfold zPK zF10 zFsm at hP ⊢
  rw [a1, a3, a4, b1, b3, b4, c1, c3, c4, c5, d1, d2, f1, f2, f3]
  exact hP
theorem zPK_s {n : Nat} {h : zH} (hP : zPK n h) : zPK (n + 1) (zspH (znw h 10 0 7) n) := by
  obtain ⟨⟨c10, c7, c8, c30, c31⟩, hk⟩ := hP
  refine ⟨⟨?_, ?_, ?_, ?_, ?_⟩, fun k hkn => ?_⟩
  · simp only [zspH, zsmH, lkn_c, lkr_c, lkd_c, reduceIte, Nat.reduceEqDiff]
    rw [← c10]
  · simp only [zspH, zsmH, lkn_c, lkr_c, lkd_c, reduceIte, Nat.reduceEqDiff]
    rw [← c7]
  · simp only [zspH, zsmH, lkn_c, lkr_c, lkd_c, reduceIte, Nat.reduceEqDiff]
    rw [← c8]
  · simp only [zspH, zsmH, lkn_c, lkr_c, lkd_c, reduceIte, Nat.reduceEqDiff]
    rw [c30]
    rfl
  · simp only [zspH, zsmH, lkn_c, lkr_c, lkd_c, reduceIte, Nat.reduceEqDiff]
    rw [c31]
    rfl
  · have q0 : (2 * n = 2 * n + 1) = False := eq_false (by omega)
    have q1 : (2 * n + 1 = 2 * n) = False := eq_false (by omega)
    by_cases e : k = n
    · subst e
      unfold zF10 zFsm
      simp only [zspH, zsmH, lkn_c, lkn_l, lkn_i, lkn_r, lkn_d, lkr_c, lkr_l, lkr_i, lkr_r, lkr_d, lkd_c, lkd_l, lkd_i, lkd_r, lkd_d, c10, c7, c8, c30, c31, q0, q1, reduceIte, Nat.reduceEqDiff, and_true, true_and, and_false, false_and, and_self, implies_true, eq_self]
    · have e1 : (k = n) = False := eq_false e
      have e2 : (2 * k = 2 * n) = False := eq_false (by omega)
      have e3 : (2 * k = 2 * n + 1) = False := eq_false (by omega)
      have e4 : (2 * k + 1 = 2 * n) = False := eq_false (by omega)
      have e5 : (2 * k + 1 = 2 * n + 1) = False := eq_false (by omega)
      have := hk k (by omega)
      unfold zF10 zFsm at this ⊢
      simp only [zspH, zsmH, lkn_c, lkn_l, lkn_i, lkn_r, lkn_d, lkr_c, lkr_l, lkr_i, lkr_r, lkr_d, lkd_c, lkd_l, lkd_i, lkd_r, lkd_d, c10, c7, c8, c30, c31, q0, q1, e1, e2, e3, e4, e5, reduceIte, Nat.reduceEqDiff, and_true, true_and, and_false, false_and, and_self]
      exact this
theorem zPK_f {n : Nat} {h : zH} {P : Nat → Prop} (hp : ∀ k, P k → k ≠ 7 ∧ k ≠ 8 ∧ k ≠ 10 ∧ k ≠ 30 ∧ k ≠ 31) : zKp P h (zspH (znw h 10 0 7) n) ∧ zce (zspH (znw h 10 0 7) n) = zce h + 7 ∧ zso (zspH (znw h 10 0 7) n) = zso h + 65 := by
  have n7 : ¬ P 7 := fun z => (hp 7 z).1 rfl
  have n8 : ¬ P 8 := fun z => (hp 8 z).2.1 rfl
  have n10 : ¬ P 10 := fun z => (hp 10 z).2.2.1 rfl
  have n30 : ¬ P 30 := fun z => (hp 30 z).2.2.2.1 rfl
  have n31 : ¬ P 31 := fun z => (hp 31 z).2.2.2.2 rfl
  refine ⟨?_, ?_, ?_⟩
  · have sm : ∀ (H : zH) (K i a b : Nat), ¬ P K → zKp P H (zsmH H K i a b) := fun H K i a b hK => ((zKp_nw n30).tr (zKp_r hK)).tr ((zKp_nw n31).tr (zKp_r hK))
    exact (zKp_nw n10).tr ((zKp_d n10).tr ((zKp_nw n7).tr ((sm _ 7 _ _ _ n7).tr ((zKp_r n10).tr ((zKp_nw n8).tr ((sm _ 8 _ _ _ n8).tr (zKp_r n10)))))))
  · show zce h + 1 + 1 + 1 + 1 + 1 + 1 + 1 = _
    omega
  · show zso h + 7 + 4 + 8 + 17 + 4 + 8 + 17 = _
    omega

