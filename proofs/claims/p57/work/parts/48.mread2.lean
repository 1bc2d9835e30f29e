set_option maxRecDepth 16384
/-! The model's methods that only read: what may go. -/
def zfdP (s : zS) (a k : Int) : Prop := ¬ (s 20 (8 * s 3 a + k) = 0 ∨ zbt (s 8 a) k)
def zfd (s : zS) (a : Int) : Prop := zbt (s 21 (s 3 a)) (s 9 a) ∧ (s 23 (s 3 a) = -1 ∨ zbt (s 8 a) (s 23 (s 3 a))) ∧ ¬ zxs 0 8 (zfdP s a)
/-- one that lives and with which it may not -/
def zbad (s : zS) (a b : Int) : Prop := b ≠ a ∧ zlv s b (-1) ∧ ¬ zrs s a b 0
def zoth (s : zS) (a b : Int) : Prop := b ≠ a ∧ zlv s b (-1) ∧ s 3 b = s 7 a
theorem zrs_u {s : zS} {a b v w : Int} (h : zrs s a b v) (h' : zrs s a b w) : v = w := by
  unfold zrs at h h'
  rcases h with ⟨e, h⟩ | ⟨e, h⟩ <;> rcases h' with ⟨e', h'⟩ | ⟨e', h'⟩
  · rcases h with ⟨p, q⟩ | ⟨p, p2, q⟩ | ⟨p, p2, q⟩ <;> rcases h' with ⟨p', q'⟩ | ⟨p', p2', q'⟩ | ⟨p', p2', q'⟩ <;> first
      | omega
      | exact absurd p' p
      | exact absurd p p'
      | exact absurd p2' p2
      | exact absurd p2 p2'
  · exact absurd e e'
  · exact absurd e' e
  · rcases h with ⟨p, q⟩ | ⟨p, p2, q⟩ | ⟨p, p2, q⟩ <;> rcases h' with ⟨p', q'⟩ | ⟨p', p2', q'⟩ | ⟨p', p2', q'⟩ <;> first
      | omega
      | exact absurd p' p
      | exact absurd p p'
      | exact absurd p2' p2
      | exact absurd p2 p2'
def zmyV (s : zS) (a v : Int) : Prop :=
  (zlv s a (-1) ∧ v = 0) ∨ (¬ zlv s a (-1) ∧ zxs 0 (s 2 0) (zbad s a) ∧ v = 6) ∨
  (¬ zlv s a (-1) ∧ ¬ zxs 0 (s 2 0) (zbad s a) ∧ ((s 6 a = 0 ∨ zxs 0 (s 2 0) (zoth s a)) ∧ zfd s a) ∧ v = 0) ∨
  (¬ zlv s a (-1) ∧ ¬ zxs 0 (s 2 0) (zbad s a) ∧ ¬ ((s 6 a = 0 ∨ zxs 0 (s 2 0) (zoth s a)) ∧ zfd s a) ∧ v = 7)
