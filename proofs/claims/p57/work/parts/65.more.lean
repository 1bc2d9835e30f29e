set_option maxRecDepth 16384
/-! approve, seers, stale, forbidden: both sides. -/
/-- how many of a set of eight: as the model counts it -/
theorem zbits_d : ∀ m, m < 64 → ∀ n, n < 9 → (List.range n).foldl (fun (t : Int32) k => t + ((Int32.ofInt (m : Nat) >>> (Int32.ofInt (k : Nat) &&& 31)) &&& 1)) 0 = Int32.ofInt ((((List.range n).filter fun k => m.testBit k).length : Nat) : Int) := by decide +kernel
theorem zor_d6 : ∀ t, t < 64 → ∀ i, i < 6 → (t ||| 1 <<< i) < 64 ∧ ((Int32.ofInt (t : Nat)) ||| ((1 : Int32) <<< ((Int32.ofInt (i : Nat)) &&& 31))) = Int32.ofInt ((t ||| 1 <<< i : Nat) : Int) := by decide +kernel
theorem zor_6 {t i : Int} (h1 : 0 ≤ t) (h2 : t ≤ 63) (h3 : 0 ≤ i) (h4 : i ≤ 5) : ∃ u, (zE t ||| (zE 1 <<< (zE i &&& 31))) = zE u ∧ 0 ≤ u ∧ u ≤ 63 := by
  obtain ⟨e1, e2⟩ := zor_d6 t.toNat (by omega) i.toNat (by omega)
  rw [Int.toNat_of_nonneg h1, Int.toNat_of_nonneg h3] at e2
  exact ⟨_, e2, by omega, by omega⟩
