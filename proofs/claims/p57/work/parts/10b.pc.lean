/-! Where an instruction goes on. -/
theorem zL_pc {o : Instr} {as : List Nat} {pc : Nat} {L : zLs} {st : List zV} {h : zH} {c : zC} (hs : zsLoc o as pc L st h = some c) : c.1 = pc + 1 := by
  unfold zsLoc at hs
  split at hs <;> first
    | (cases hs; rfl)
    | (cases hs; done)
    | (split at hs <;> first | (cases hs; rfl) | cases hs)
    | (obtain ⟨v, -, hs⟩ := Option.bind_eq_some_iff.mp hs; split at hs <;> first | (cases hs; rfl) | cases hs)
    | (split at hs <;> first | (cases hs; rfl) | (rename_i v _; cases hq : zcat v == 1 <;> simp only [hq, cond_true, cond_false] at hs <;> first | (cases hs; rfl) | cases hs) | (rename_i v w _; cases hq : zcat v == 1 && zcat w == 1 <;> simp only [hq, cond_true, cond_false] at hs <;> first | (cases hs; rfl) | cases hs) | cases hs)
theorem zN_pc {o : Instr} {pc : Nat} {L : zLs} {st : List zV} {h : zH} {c : zC} (hs : zsNum o pc L st h = some c) : c.1 = pc + 1 ∧ c.2.1 = L := by
  unfold zsNum at hs
  split at hs <;> first
    | (cases hs; exact ⟨rfl, rfl⟩)
    | (cases hs; done)
    | (split at hs <;> first | (cases hs; exact ⟨rfl, rfl⟩) | cases hs)
theorem zC_pc {o : Instr} {pc : Nat} {L : zLs} {st : List zV} {h : zH} {c : zC} (hs : zsCmp o pc L st h = some c) : c.1 = pc + 1 ∧ c.2.1 = L := by
  unfold zsCmp at hs
  split at hs <;> first
    | (cases hs; exact ⟨rfl, rfl⟩)
    | (cases hs; done)
theorem zF_pc {o : Instr} {a : List Nat} {pc : Nat} {L : zLs} {st : List zV} {h : zH} {c : zC} (hs : zsFld o a pc L st h = some c) : c.1 = pc + 1 ∧ c.2.1 = L := by
  unfold zsFld at hs
  split at hs
  · rename_i ci j t k i st2
    cases hq : ztg k == 0 && zkc k == ci with
    | false => simp only [hq, cond_false] at hs; cases hs
    | true =>
      simp only [hq, cond_true] at hs
      split at hs <;> (cases hs; exact ⟨rfl, rfl⟩)
  · rename_i ci j t v k i st2
    cases hq : ztg k == 0 && zkc k == ci with
    | false => simp only [hq, cond_false] at hs; cases hs
    | true =>
      simp only [hq, cond_true] at hs
      split at hs <;> first
        | (cases hs; exact ⟨rfl, rfl⟩)
        | (cases hs; exact ⟨rfl, rfl⟩)
        | (cases hs; exact ⟨rfl, rfl⟩)
        | (cases hs; done)
        | (split at hs <;> first | (cases hs; exact ⟨rfl, rfl⟩) | cases hs)
  · cases hs
theorem zA_pc {o : Instr} {pc : Nat} {L : zLs} {st : List zV} {h : zH} {c : zC} (hs : zsArr o pc L st h = some c) : c.1 = pc + 1 ∧ c.2.1 = L := by
  unfold zsArr at hs
  split at hs <;> first
    | (cases hs; done)
    | (simp only [cond_eq_ite] at hs; split at hs <;> first
        | (cases hs; done)
        | (cases hs; exact ⟨rfl, rfl⟩)
        | (split at hs <;> first
          | (cases hs; done)
          | (cases hs; exact ⟨rfl, rfl⟩)
          | (cases hs; exact ⟨rfl, rfl⟩)
          | (cases hs; exact ⟨rfl, rfl⟩)
          | (cases hs; exact ⟨rfl, rfl⟩)
          | (cases hs; exact ⟨rfl, rfl⟩)
          | (split at hs <;> first | (cases hs; exact ⟨rfl, rfl⟩) | cases hs)))
theorem zW_pc {o : Instr} {a : List Nat} {pc : Nat} {L : zLs} {st : List zV} {h : zH} {c : zC} (hs : zsNew o a pc L st h = some c) : c.1 = pc + 1 ∧ c.2.1 = L := by
  have e : ∀ {k t : Nat}, (ztg k == t) = true → t ≠ 99 → t ≠ 10 → k < 1000 ∧ ztg k ≠ 10 ∧ ztg k ≠ 99 ∧ ztg k = t := by
    intro k t h1 h2 h3
    have h4 : ztg k = t := eq_of_beq h1
    exact ⟨zk_lt (by rw [h4]; exact h2), by rw [h4]; exact h3, by rw [h4]; exact h2, h4⟩
  unfold zsNew at hs
  split at hs
  · rename_i k
    cases hq : ztg k == 0 with
    | true =>
      simp only [hq, cond_true] at hs
      cases hs
      obtain ⟨a1, a2, a3, a4⟩ := e hq (by decide) (by decide)
      exact ⟨rfl, rfl⟩
    | false =>
      cases hq9 : ztg k == 9 with
      | true =>
        simp only [hq, hq9, cond_true, cond_false] at hs
        cases hs
        obtain ⟨a1, a2, a3, a4⟩ := e hq9 (by decide) (by decide)
        exact ⟨rfl, rfl⟩
      | false =>
        simp only [hq, hq9, cond_false] at hs
        cases hs
  · rename_i k x st2
    cases hq : ztg k == 1 with
    | false => simp only [hq, cond_false] at hs; cases hs
    | true =>
      simp only [hq, cond_true] at hs
      obtain ⟨a1, a2, a3, a4⟩ := e hq (by decide) (by decide)
      split at hs
      · cases hs
      · cases hs
        exact ⟨rfl, rfl⟩
  · rename_i k x st2
    cases hq : ztg k == 2 with
    | false => simp only [hq, cond_false] at hs; cases hs
    | true =>
      simp only [hq, cond_true] at hs
      obtain ⟨a1, a2, a3, a4⟩ := e hq (by decide) (by decide)
      split at hs
      · cases hs
      · cases hs
        exact ⟨rfl, rfl⟩
  · rename_i k x st2
    cases hq : ztg k == 3 with
    | false => simp only [hq, cond_false] at hs; cases hs
    | true =>
      simp only [hq, cond_true] at hs
      obtain ⟨a1, a2, a3, a4⟩ := e hq (by decide) (by decide)
      split at hs
      · cases hs
      · cases hs
        exact ⟨rfl, rfl⟩
  · rename_i k x st2
    cases hq : ztg k == 4 with
    | false => simp only [hq, cond_false] at hs; cases hs
    | true =>
      simp only [hq, cond_true] at hs
      obtain ⟨a1, a2, a3, a4⟩ := e hq (by decide) (by decide)
      split at hs
      · cases hs
      · cases hs
        exact ⟨rfl, rfl⟩
  · rename_i k x st2
    cases hq : ztg k == 5 with
    | false => simp only [hq, cond_false] at hs; cases hs
    | true =>
      simp only [hq, cond_true] at hs
      obtain ⟨a1, a2, a3, a4⟩ := e hq (by decide) (by decide)
      split at hs
      · cases hs
      · cases hs
        exact ⟨rfl, rfl⟩
  · rename_i ci k i st2
    cases hq : ztg k == 0 && zkc k == ci with
    | false => simp only [hq, cond_false] at hs; cases hs
    | true =>
      simp only [hq, cond_true] at hs
      cases hs
      exact ⟨rfl, rfl⟩
  · cases hs
theorem zF_cnt {o : Instr} {a : List Nat} {pc : Nat} {L : zLs} {st : List zV} {h : zH} {c : zC} (hs : zsFld o a pc L st h = some c) : zce c.2.2.2 = zce h ∧ zso c.2.2.2 = zso h := by
  unfold zsFld at hs
  split at hs
  · rename_i ci j t k i st2
    cases hq : ztg k == 0 && zkc k == ci with
    | false => simp only [hq, cond_false] at hs; cases hs
    | true =>
      simp only [hq, cond_true] at hs
      split at hs <;> (cases hs; exact ⟨rfl, rfl⟩)
  · rename_i ci j t v k i st2
    cases hq : ztg k == 0 && zkc k == ci with
    | false => simp only [hq, cond_false] at hs; cases hs
    | true =>
      simp only [hq, cond_true] at hs
      split at hs <;> first
        | (cases hs; exact ⟨rfl, rfl⟩)
        | (cases hs; exact ⟨rfl, rfl⟩)
        | (cases hs; exact ⟨rfl, rfl⟩)
        | (cases hs; done)
        | (split at hs <;> first | (cases hs; exact ⟨rfl, rfl⟩) | cases hs)
  · cases hs
theorem zA_cnt {o : Instr} {pc : Nat} {L : zLs} {st : List zV} {h : zH} {c : zC} (hs : zsArr o pc L st h = some c) : zce c.2.2.2 = zce h ∧ zso c.2.2.2 = zso h := by
  unfold zsArr at hs
  split at hs <;> first
    | (cases hs; done)
    | (simp only [cond_eq_ite] at hs; split at hs <;> first
        | (cases hs; done)
        | (cases hs; exact ⟨rfl, rfl⟩)
        | (split at hs <;> first
          | (cases hs; done)
          | (cases hs; exact ⟨rfl, rfl⟩)
          | (cases hs; exact ⟨rfl, rfl⟩)
          | (cases hs; exact ⟨rfl, rfl⟩)
          | (cases hs; exact ⟨rfl, rfl⟩)
          | (cases hs; exact ⟨rfl, rfl⟩)
          | (split at hs <;> first | (cases hs; exact ⟨rfl, rfl⟩) | cases hs)))
