set_option maxRecDepth 16384
/-! The law's other calls: truths among the arguments, doubles and floats for an answer (printed by wip/whole/gen/cases2.py). -/
theorem zbt01 (x : Int32) : ∃ b : Int, (b = 0 ∨ b = 1) ∧ ∀ f g : zRs Int32, (if x = 0 then f else g) = (if b = 0 then f else g) := by
  by_cases e : x = 0
  · exact ⟨0, Or.inl rfl, fun f g => by rw [if_pos e, if_pos rfl]⟩
  · exact ⟨1, Or.inr rfl, fun f g => by rw [if_neg e, if_neg (by decide)]⟩
theorem zd_sd {h : zH} {k i j : Nat} {v : UInt64} : zd (zsd h k i j v) k i j = v := if_pos ⟨rfl, rfl, rfl⟩
section ZOUTD
variable {α : Type}
end ZOUTD
