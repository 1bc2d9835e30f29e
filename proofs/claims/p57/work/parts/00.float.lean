set_option maxRecDepth 16384
/-! Doubles and floats: what is a number. (Names of the library's FloatLaws: they stand in the first part, so that a new machine's first round takes the wide library at once.) -/
theorem zF_nan {a : UInt64} : a &&& 0x7fffffffffffffff ≤ 0x7ff0000000000000 ↔ FP.Core.val64 a ≠ .nan := by
  rw [← FP.Core.notNaN_iff, ← Bool.not_eq_true, FP.Core.isNaN_bits, UInt64.le_iff_toNat_le, UInt64.toNat_and]
  have e : a.toNat &&& (0x7fffffffffffffff : UInt64).toNat = a.toNat % 2 ^ 63 := by
    show a.toNat &&& (2 ^ 63 - 1) = _
    exact Nat.and_two_pow_sub_one_eq_mod _ _
  rw [e]
  show a.toNat % 2 ^ 63 ≤ 9218868437227405312 ↔ _
  omega
theorem zF_n32 {a : UInt32} : a &&& 0x7fffffff ≤ 0x7f800000 ↔ FP.Core.val32 a ≠ .nan := by
  rw [← FP.Core.notNaN_iff32, ← Bool.not_eq_true, FP.Core.isNaN_bits32, UInt32.le_iff_toNat_le, UInt32.toNat_and]
  have e : a.toNat &&& (0x7fffffff : UInt32).toNat = a.toNat % 2 ^ 31 := by
    show a.toNat &&& (2 ^ 31 - 1) = _
    exact Nat.and_two_pow_sub_one_eq_mod _ _
  rw [e]
  show a.toNat % 2 ^ 31 ≤ 2139095040 ↔ _
  omega
theorem zF_c1 : FP.Core.val64 4607182418800017408 = .fin false 4503599627370496 (-52) := by decide +kernel
theorem zF_c5 : FP.Core.val64 4602678819172646912 = .fin false 4503599627370496 (-53) := by decide +kernel
theorem zF_c15 : FP.Core.val64 4609434218613702656 = .fin false 6755399441055744 (-52) := by decide +kernel
theorem zF_c20 : FP.Core.val64 4626322717216342016 = .fin false 5629499534213120 (-48) := by decide +kernel
theorem zF_one {c : UInt64} (h : FP.Core.val64 c ≠ .nan) : FP.dmul c 4607182418800017408 = c := FP.Core.dmul_one h
theorem zF_mul {c m : UInt64} {s : Bool} {k : Nat} {q : Int} (h : FP.Core.val64 c ≠ .nan) (hm : FP.Core.val64 m = .fin s k q) (hk : k ≠ 0) : FP.Core.val64 (FP.dmul c m) ≠ .nan := by
  rw [← FP.Core.notNaN_iff, ← Bool.not_eq_true]
  intro z
  rcases (FP.Core.dmul_nan_iff c m).mp z with z | z | ⟨t, -, t', q', z⟩ | ⟨t, -, z⟩
  · exact h z
  · rw [hm] at z; cases z
  · rw [hm] at z
    injection z with z1 z2
    exact hk z2
  · rw [hm] at z; cases z
