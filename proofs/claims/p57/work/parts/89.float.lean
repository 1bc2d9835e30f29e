set_option maxRecDepth 16384
/-! Doubles and floats: what is a number; the capital's steps. (Names of the library's FloatLaws and FloatLaws2: the narrow library has them not.) -/
theorem zcst_n {c : UInt64} {p q : Int} (h : FP.Core.val64 c ≠ .nan) : FP.Core.val64 (zcst c p q) ≠ .nan := by
  unfold zcst
  split
  · exact h
  · split
    · exact h
    · split
      · exact zF_mul h zF_c5 (by decide)
      · exact zF_mul h zF_c15 (by decide)
theorem zcpN_n (s : zS) (k : Int) : ∀ n, FP.Core.val64 (zcpN s k n) ≠ .nan
  | 0 => by
    show FP.Core.val64 4607182418800017408 ≠ .nan
    rw [zF_c1]
    intro z; cases z
  | n + 1 => zcst_n (zcpN_n s k n)
theorem zcv : ∀ o : Ordering, Op.cmpValue (some o) .g = Op.cmpValue (some o) .l := by
  intro o
  cases o <;> rfl
theorem zF_ge {c : UInt64} (h : FP.Core.val64 c ≠ .nan) : Op.cmpValue (FP.dcmp c 4626322717216342016) .g = Op.cmpValue (FP.dcmp c 4626322717216342016) .l := by
  have e : FP.dcmp c 4626322717216342016 = FP.Core.order (FP.Core.val64 c) (FP.Core.val64 4626322717216342016) := rfl
  rw [e, zF_c20]
  cases hv : FP.Core.val64 c with
  | nan => exact absurd hv h
  | inf s => exact zcv _
  | fin s c q => exact zcv _
/-- enough capital to reject -/
def zbig (c : UInt64) : Prop := 0 ≤ (Op.cmpValue (FP.dcmp c 4626322717216342016) .l)
theorem zcst_b {c : UInt64} {p q : Int} (h : zbig c) : zcst c p q = c := if_pos h
theorem zcpN_b {s : zS} {k : Int} {n : Nat} (h : zbig (zcpN s k n)) : ∀ m, n ≤ m → zcpN s k m = zcpN s k n := by
  intro m hm
  obtain ⟨d, rfl⟩ := Nat.le.dest hm
  clear hm
  induction d with
  | zero => rfl
  | succ d ih =>
    show zcst (zcpN s k (n + d)) _ _ = _
    rw [ih, zcst_b h]
theorem zF_i2f {n : Int} (h0 : 0 ≤ n) (h1 : n ≤ 600) : ∃ c q, FP.Core.val32 (FP.i2f (zE n)) = .fin false c q ∧ (c = 0 ↔ n = 0) := by
  have K : ∀ m, m < 601 → (match FP.Core.round FP.Core.b32 (FP.Core.ofInt (m : Nat)) with
      | .fin s c _ => !s && decide (c = 0 ↔ m = 0)
      | _ => false) = true := by decide +kernel
  have d : ∀ m, m < 601 → ∃ c q, FP.Core.round FP.Core.b32 (FP.Core.ofInt (m : Nat)) = .fin false c q ∧ (c = 0 ↔ m = 0) := by
    intro m hm
    have k := K m hm
    split at k
    · rename_i s c q e
      rw [Bool.and_eq_true, decide_eq_true_iff] at k
      have k1 : s = false := by
        cases s
        · rfl
        · exact absurd k.1 (by decide)
      subst k1
      exact ⟨c, q, e, k.2⟩
    · cases k
  obtain ⟨c, q, h2, h3⟩ := d n.toNat (by omega)
  refine ⟨c, q, ?_, by omega⟩
  have e := FP.Core.val32_i2f (zE n)
  rw [zE_to (by omega) (by omega)] at e
  rw [show n = ((n.toNat : Nat) : Int) by omega] at e ⊢
  exact e.trans h2
theorem zF_div {n m : Int} (n0 : 0 ≤ n) (n1 : n ≤ 600) (m0 : 0 < m) (m1 : m ≤ 600) : FP.Core.val32 (FP.fdiv (FP.i2f (zE n)) (FP.i2f (zE m))) ≠ .nan := by
  obtain ⟨c, q, h1, h2⟩ := zF_i2f n0 n1
  obtain ⟨d, r, h3, h4⟩ := zF_i2f (n := m) (by omega) m1
  rw [← FP.Core.notNaN_iff32, ← Bool.not_eq_true]
  intro z
  rcases (FP.Core.fdiv_nan_iff _ _).mp z with z | z | ⟨t, t', z, -⟩ | ⟨-, t, t', z⟩
  · rw [show FP.Core.val32 (FP.Core.i2f (zE n)) = _ from h1] at z; cases z
  · rw [show FP.Core.val32 (FP.Core.i2f (zE m)) = _ from h3] at z; cases z
  · rw [show FP.Core.val32 (FP.Core.i2f (zE n)) = _ from h1] at z; cases z
  · rw [show FP.Core.val32 (FP.Core.i2f (zE m)) = _ from h3] at z
    injection z with z1 z2
    omega
theorem zF_f2d {a : UInt32} (h : FP.Core.val32 a ≠ .nan) : FP.f2d a &&& 0x7fffffffffffffff ≤ 0x7ff0000000000000 ∧ (Op.cmpValue (FP.dcmp (FP.f2d a) (FP.f2d a)) .l) = 0 := by
  have h0 : FP.Core.fIsNaN a = false := (FP.Core.notNaN_iff32 a).mpr h
  have e : FP.f2d a = FP.Core.f2d a := by
    unfold FP.f2d
    rw [h0]
    rfl
  have h1 : FP.Core.val64 (FP.f2d a) ≠ .nan := by
    rw [e, ← FP.Core.notNaN_iff, FP.Core.f2d_nan]
    exact h0
  refine ⟨zF_nan.mpr h1, ?_⟩
  rw [show FP.dcmp (FP.f2d a) (FP.f2d a) = some .eq from FP.Core.dcmp_self h1]
  rfl

