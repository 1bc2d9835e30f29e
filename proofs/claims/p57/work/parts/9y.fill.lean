set_option maxRecDepth 16384
/-! The start: the state; the model's fills. -/
def zs0 : zS := fun j _ => if j = 12 ∨ j = 13 ∨ j = 18 ∨ j = 23 ∨ j = 62 then -1 else if j = 21 then 1 else 0
theorem zmA_p : zmA.Pairwise (fun a b => a.2.1 ≠ b.2.1 ∧ a.1 ≠ b.1) := by decide +kernel
theorem zmA_n : zmA.length = 64 ∧ (zmA.map (·.2.2)).sum ≤ 40000 := by decide +kernel
theorem zmA_d : ∀ e ∈ zmA, (e.1 = 12 → e.2.2 ≤ 12) ∧ (e.1 = 13 → e.2.2 ≤ 12) ∧ (e.1 = 18 → e.2.2 ≤ 800) ∧ (e.1 = 21 → e.2.2 ≤ 4) ∧ (e.1 = 23 → e.2.2 ≤ 4) ∧ (e.1 = 62 → e.2.2 ≤ 8) := by decide +kernel
theorem zmS_d : ∀ j ∈ zmS, j ≠ 12 ∧ j ≠ 13 ∧ j ≠ 18 ∧ j ≠ 21 ∧ j ≠ 23 ∧ j ≠ 62 := by decide
