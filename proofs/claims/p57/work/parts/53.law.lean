set_option maxRecDepth 16384
/-! The law's loop (printed by wip/whole/gen/law.py). -/
def zSc (L : Nat) (xs : Nat → Int32) (h : zH) : Prop := zln h 38 0 = 1 ∧ zln h 39 0 = 1 ∧ zln h 40 0 = L ∧ ∀ x, x < L → zi h 40 0 x = xs x
theorem zSc.kp {L : Nat} {xs : Nat → Int32} {h h' : zH} (hS : zSc L xs h) (e : ∀ k, k = 38 ∨ k = 39 ∨ k = 40 → zln h' k = zln h k ∧ zi h' k = zi h k) : zSc L xs h' := by
  obtain ⟨a, b, c, d⟩ := hS
  refine ⟨?_, ?_, ?_, fun x hx => ?_⟩
  · rw [(e 38 (by decide)).1]; exact a
  · rw [(e 39 (by decide)).1]; exact b
  · rw [(e 40 (by decide)).1]; exact c
  · rw [(e 40 (by decide)).2]; exact d x hx
abbrev zLk : Type := zq → zq → zq → zq → zq → Int32 → zH → zRs Int32
