set_option maxRecDepth 16384
/-! verdict, verdictByAll, capital, badPart: both sides. -/
/-- the part of bad ones, as a float -/
noncomputable def zbpt (s : zS) (w : Int) : UInt32 := if s 47 w = 0 then 0 else FP.fdiv (FP.i2f (zE (zcnt (fun x => s 48 (600 * w + x) = 1) (s 47 w).toNat))) (FP.i2f (zE (s 47 w)))
theorem zbpt_n {s : zS} (hM : zWm s) {w : Int} (w0 : 0 ≤ w) (w1 : w < 24) : FP.Core.val32 (zbpt s w) ≠ .nan := by
  have hm := hM.1
  obtain ⟨h2, h3⟩ := hM.2 w w0 w1
  have hr := zcnt_r (fun x => s 48 (600 * w + x) = 1) (s 47 w).toNat
  unfold zbpt
  split
  · decide +kernel
  · exact zF_div (by omega) (by omega) (by omega) (by omega)
