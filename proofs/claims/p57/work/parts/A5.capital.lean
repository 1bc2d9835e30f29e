set_option maxRecDepth 16384
/-! The capital stays above 0: behind n pairs it is at least 2 to the power of -n. -/
theorem zF_ps {c m : UInt64} {d : Nat} {r : Int} {n : Nat} (hn : n < 900) (hm : FP.Core.val64 m = .fin false d r) (r0 : -100 ≤ r) (r1 : r ≤ 0) (hd : 2 ^ 199 ≤ d * 2 ^ (r + 200).toNat) (h : FP.Core.val64 c ≠ .nan) (hz : ((2 ^ (1074 - n) : Nat) : Int) ≤ FP.Core.zval FP.Core.b64 (FP.Core.val64 c)) : ((2 ^ (1074 - (n + 1)) : Nat) : Int) ≤ FP.Core.zval FP.Core.b64 (FP.Core.val64 (FP.dmul c m)) := by
  have e : FP.Core.val64 (FP.dmul c m) = FP.Core.round FP.Core.b64 (FP.Core.exactProduct (FP.Core.val64 c) (FP.Core.val64 m)) := FP.Core.val64_dmul c m
  rw [e, hm]
  have hf := FP.Core.val64_fits c
  have qm : FP.Core.b64.qmin = -1074 := by decide
  have p1 : 0 < 2 ^ (1074 - n) := Nat.two_pow_pos _
  have d0 : d ≠ 0 := by
    intro z
    rw [z, Nat.zero_mul] at hd
    exact absurd (Nat.two_pow_pos 199) (Nat.not_lt.mpr hd)
  generalize FP.Core.val64 c = x at *
  cases x with
  | nan => exact absurd rfl h
  | inf s =>
    cases s with
    | true =>
      have hz : ((2 ^ (1074 - n) : Nat) : Int) ≤ -((FP.Core.b64.tails * 2 ^ (FP.Core.b64.exps - 2) : Nat) : Int) := hz
      omega
    | false =>
      show ((2 ^ (1074 - (n + 1)) : Nat) : Int) ≤ FP.Core.zval FP.Core.b64 (FP.Core.round FP.Core.b64 (if d = 0 then .nan else .inf (false != false)))
      rw [if_neg d0]
      show ((2 ^ (1074 - (n + 1)) : Nat) : Int) ≤ ((FP.Core.b64.tails * 2 ^ (FP.Core.b64.exps - 2) : Nat) : Int)
      have e2 : FP.Core.b64.exps - 2 = 2046 := by decide
      have e3 : 0 < FP.Core.b64.tails := by decide
      rw [e2]
      have a1 : 2 ^ (1074 - (n + 1)) ≤ 2 ^ 2046 := Nat.pow_le_pow_right (by omega) (by omega)
      exact Int.ofNat_le.mpr (Nat.le_trans a1 (Nat.le_mul_of_pos_left _ e3))
  | fin s k q =>
    obtain ⟨f1, f2, f3, f4⟩ := hf
    rw [qm] at f2
    cases s with
    | true =>
      have hz : ((2 ^ (1074 - n) : Nat) : Int) ≤ -((FP.Core.inUnits k q FP.Core.b64.qmin : Nat) : Int) := hz
      omega
    | false =>
      have hz : ((2 ^ (1074 - n) : Nat) : Int) ≤ ((FP.Core.inUnits k q FP.Core.b64.qmin : Nat) : Int) := hz
      have hz' : 2 ^ (1074 - n) ≤ k * 2 ^ (q + 1074).toNat := by
        have := Int.ofNat_le.mp hz
        unfold FP.Core.inUnits at this
        rw [qm] at this
        rwa [show q - -1074 = q + 1074 by omega] at this
      have fV : FP.Core.fits FP.Core.b64 (.fin false (2 ^ 52) (-(n : Int) - 53)) := by
        refine ⟨by decide, ?_, ?_, Or.inr (by decide)⟩
        · rw [qm]; omega
        · have : FP.Core.b64.qmax = 971 := by decide
          rw [this]; omega
      have zV : FP.Core.zval FP.Core.b64 (.fin false (2 ^ 52) (-(n : Int) - 53)) = ((2 ^ (1074 - (n + 1)) : Nat) : Int) := by
        show ((2 ^ 52 * 2 ^ (-(n : Int) - 53 - FP.Core.b64.qmin).toNat : Nat) : Int) = _
        rw [qm, ← Nat.pow_add, show 52 + (-(n : Int) - 53 - -1074).toNat = 1074 - (n + 1) by omega]
      have key := FP.Core.zval_round_ge FP.Core.good_b64 (s := false) (c := k * d) (q := q + r) (e0 := -1274) fV (by intro z; cases z) (by rw [qm]; omega) (by omega) (by
        rw [zV, qm]
        show ((2 ^ (1074 - (n + 1)) : Nat) : Int) * ((2 ^ (-1074 - -1274 : Int).toNat : Nat) : Int) ≤ ((k * d * 2 ^ (q + r - -1274).toNat : Nat) : Int)
        rw [← Int.natCast_mul]
        refine Int.ofNat_le.mpr ?_
        rw [show (-1074 - -1274 : Int).toNat = 200 from rfl, ← Nat.pow_add, show 1074 - (n + 1) + 200 = (1074 - n) + 199 by omega, Nat.pow_add, show (q + r - -1274).toNat = (q + 1074).toNat + (r + 200).toNat by omega, Nat.pow_add, Nat.mul_assoc k d, ← Nat.mul_assoc d, Nat.mul_comm d (2 ^ (q + 1074).toNat), Nat.mul_assoc (2 ^ (q + 1074).toNat), ← Nat.mul_assoc k]
        exact Nat.mul_le_mul hz' hd)
      rw [zV] at key
      exact key
theorem zcst_p {c : UInt64} {p q : Int} {n : Nat} (hn : n < 900) (h : FP.Core.val64 c ≠ .nan) (hz : ((2 ^ (1074 - n) : Nat) : Int) ≤ FP.Core.zval FP.Core.b64 (FP.Core.val64 c)) : ((2 ^ (1074 - (n + 1)) : Nat) : Int) ≤ FP.Core.zval FP.Core.b64 (FP.Core.val64 (zcst c p q)) := by
  have le : ((2 ^ (1074 - (n + 1)) : Nat) : Int) ≤ ((2 ^ (1074 - n) : Nat) : Int) := Int.ofNat_le.mpr (Nat.pow_le_pow_right (by omega) (by omega))
  unfold zcst
  split
  · exact Int.le_trans le hz
  · split
    · exact Int.le_trans le hz
    · split
      · exact zF_ps hn zF_c5 (by omega) (by omega) (by decide +kernel) h hz
      · exact zF_ps hn zF_c15 (by omega) (by omega) (by decide +kernel) h hz
theorem zcpN_p (s : zS) (k : Int) : ∀ n : Nat, n ≤ 900 → ((2 ^ (1074 - n) : Nat) : Int) ≤ FP.Core.zval FP.Core.b64 (FP.Core.val64 (zcpN s k n))
  | 0, _ => by
    show ((2 ^ 1074 : Nat) : Int) ≤ FP.Core.zval FP.Core.b64 (FP.Core.val64 4607182418800017408)
    rw [zF_c1]
    decide +kernel
  | n + 1, hn => zcst_p (by omega) (zcpN_n s k n) (zcpN_p s k n (by omega))
/-- the capital is more than 0 -/
theorem zcap_p {s : zS} {k : Int} {n : Nat} (hn : n ≤ 900) : Op.cmpValue (FP.dcmp (zcpN s k n) 0) .l = 1 := by
  have h0 := zcpN_p s k n hn
  have h1 := zcpN_n s k n
  have p : 0 < 2 ^ (1074 - n) := Nat.two_pow_pos _
  have z0 : FP.Core.val64 0 ≠ .nan := by decide +kernel
  have e : FP.dcmp (zcpN s k n) 0 = some (compare (FP.Core.zval FP.Core.b64 (FP.Core.val64 (zcpN s k n))) (FP.Core.zval FP.Core.b64 (FP.Core.val64 0))) := FP.Core.dcmp_zval h1 z0
  rw [e, FP.Core.zval64_zero]
  have c : compare (FP.Core.zval FP.Core.b64 (FP.Core.val64 (zcpN s k n))) 0 = .gt := by
    generalize FP.Core.zval FP.Core.b64 (FP.Core.val64 (zcpN s k n)) = v at *
    have : (0 : Int) < v := by omega
    rw [Int.compare_eq_gt]
    exact this
  rw [c]
  rfl
