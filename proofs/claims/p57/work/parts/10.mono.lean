/-! What there is stays; what is made is counted. -/
def zle (h h' : zH) : Prop := zce h ≤ zce h' ∧ zso h ≤ zso h' ∧ ∀ k i, zex h k i → zex h' k i
theorem zle.rf (h : zH) : zle h h := ⟨Nat.le_refl _, Nat.le_refl _, fun _ _ z => z⟩
theorem zle.tr {h h1 h2 : zH} (a : zle h h1) (b : zle h1 h2) : zle h h2 := ⟨Nat.le_trans a.1 b.1, Nat.le_trans a.2.1 b.2.1, fun k i z => b.2.2 k i (a.2.2 k i z)⟩
theorem zle.ok {h h' : zH} (a : zle h h') {q : Nat × Nat} (hq : zok h q) : zok h' q := ⟨hq.1, hq.2.elim (fun z => Or.inl (a.2.2 _ _ z)) Or.inr⟩
theorem zle.okv {h h' : zH} (a : zle h h') {v : zV} (hv : zokv h v) : zokv h' v := by
  match v, hv with
  | .inr q, hv => exact a.ok hv
  | .inl (.int _), _ => trivial
  | .inl (.long _), _ => trivial
  | .inl (.float _), _ => trivial
  | .inl (.double _), _ => trivial
  | .inl .null, _ => trivial
theorem zse.le {h h' : zH} {k i : Nat} (e : zse h h' k i) : zle h h' := ⟨by rw [e.2.2.1]; exact Nat.le_refl _, by rw [e.2.2.2.1]; exact Nat.le_refl _, fun k' i' z => (e.ex k' i').mpr z⟩
theorem znw_le {h : zH} {k n sl : Nat} {g : Nat → Int32} (hk : k < 1000) (h10 : ztg k ≠ 10) (h99 : ztg k ≠ 99) (h9 : ztg k = 9 → n = 0) : zle h (znwi h k n sl g) :=
  ⟨Nat.le_succ _, Nat.le_add_right _ _, fun k' i' z => (znw_ex hk h10 h99 h9 k' i').mpr (Or.inl z)⟩
theorem zL_le {o : Instr} {as : List Nat} {pc : Nat} {L : zLs} {st : List zV} {h : zH} {c : zC} (hs : zsLoc o as pc L st h = some c) : c.2.2.2 = h := by
  unfold zsLoc at hs
  split at hs <;> first
    | (cases hs; rfl)
    | (cases hs; done)
    | (split at hs <;> first | (cases hs; rfl) | cases hs)
    | (obtain ⟨v, -, hs⟩ := Option.bind_eq_some_iff.mp hs; split at hs <;> first | (cases hs; rfl) | cases hs)
    | (split at hs <;> first | (cases hs; rfl) | (rename_i v _; cases hq : zcat v == 1 <;> simp only [hq, cond_true, cond_false] at hs <;> first | (cases hs; rfl) | cases hs) | (rename_i v w _; cases hq : zcat v == 1 && zcat w == 1 <;> simp only [hq, cond_true, cond_false] at hs <;> first | (cases hs; rfl) | cases hs) | cases hs)
theorem zN_le {o : Instr} {pc : Nat} {L : zLs} {st : List zV} {h : zH} {c : zC} (hs : zsNum o pc L st h = some c) : c.2.2.2 = h := by
  unfold zsNum at hs
  split at hs <;> first
    | (cases hs; rfl)
    | (cases hs; done)
    | (split at hs <;> first | (cases hs; rfl) | cases hs)
theorem zC_le {o : Instr} {pc : Nat} {L : zLs} {st : List zV} {h : zH} {c : zC} (hs : zsCmp o pc L st h = some c) : c.2.2.2 = h := by
  unfold zsCmp at hs
  split at hs <;> first
    | (cases hs; rfl)
    | (cases hs; done)
theorem zI_le {o : Instr} {t pc : Nat} {L : zLs} {st : List zV} {h : zH} {c : zC} (hs : zsIf o t pc L st h = some c) : c.2.2.2 = h := by
  unfold zsIf at hs
  split at hs <;> first
    | (cases hs; rfl)
    | (cases hs; done)
    | (obtain ⟨x, -, hs⟩ := Option.bind_eq_some_iff.mp hs; obtain ⟨y, -, hs⟩ := Option.bind_eq_some_iff.mp hs; cases hs; rfl)
theorem zS_le {o : Instr} {d : Nat} {ts : List Nat} {L : zLs} {st : List zV} {h : zH} {c : zC} (hs : zsSw o d ts L st h = some c) : c.2.2.2 = h := by
  unfold zsSw at hs
  split at hs
  · split at hs
    · cases hs; rfl
    · obtain ⟨x, -, hs⟩ := Option.map_eq_some_iff.mp hs
      cases hs; rfl
  · cases hs
theorem zF_le {o : Instr} {a : List Nat} {pc : Nat} {L : zLs} {st : List zV} {h : zH} {c : zC} (hs : zsFld o a pc L st h = some c) : zle h c.2.2.2 := by
  unfold zsFld at hs
  split at hs
  · rename_i ci j t k i st2
    cases hq : ztg k == 0 && zkc k == ci with
    | false => simp only [hq, cond_false] at hs; cases hs
    | true =>
      simp only [hq, cond_true] at hs
      split at hs <;> (cases hs; exact zle.rf _)
  · rename_i ci j t v k i st2
    cases hq : ztg k == 0 && zkc k == ci with
    | false => simp only [hq, cond_false] at hs; cases hs
    | true =>
      simp only [hq, cond_true] at hs
      split at hs <;> first
        | (cases hs; exact (zse_i _ _ _ _ _).le)
        | (cases hs; exact (zse_d _ _ _ _ _).le)
        | (cases hs; exact (zse_r _ _ _ _ _).le)
        | (cases hs; done)
        | (split at hs <;> first | (cases hs; exact (zse_i _ _ _ _ _).le) | cases hs)
  · cases hs
theorem zA_le {o : Instr} {pc : Nat} {L : zLs} {st : List zV} {h : zH} {c : zC} (hs : zsArr o pc L st h = some c) : zle h c.2.2.2 := by
  unfold zsArr at hs
  split at hs <;> first
    | (cases hs; done)
    | (simp only [cond_eq_ite] at hs; split at hs <;> first
        | (cases hs; done)
        | (cases hs; exact zle.rf _)
        | (split at hs <;> first
          | (cases hs; done)
          | (cases hs; exact zle.rf _)
          | (cases hs; exact (zse_i _ _ _ _ _).le)
          | (cases hs; exact (zse_d _ _ _ _ _).le)
          | (cases hs; exact (zse_l _ _ _ _ _).le)
          | (cases hs; exact (zse_r _ _ _ _ _).le)
          | (split at hs <;> first | (cases hs; exact (zse_i _ _ _ _ _).le) | cases hs)))
theorem zW_le {o : Instr} {a : List Nat} {pc : Nat} {L : zLs} {st : List zV} {h : zH} {c : zC} (hs : zsNew o a pc L st h = some c) : zle h c.2.2.2 := by
  have e : ∀ {k t : Nat}, (ztg k == t) = true → t ≠ 99 → t ≠ 10 → k < 1000 ∧ ztg k ≠ 10 ∧ ztg k ≠ 99 ∧ ztg k = t := by
    intro k t h1 h2 h3
    have h4 : ztg k = t := eq_of_beq h1
    exact ⟨zk_lt (by rw [h4]; exact h2), by rw [h4]; exact h3, by rw [h4]; exact h2, h4⟩
  unfold zsNew at hs
  split at hs
  · rename_i k
    cases hq : ztg k == 0 with
    | true =>
      simp only [hq, cond_true] at hs
      cases hs
      obtain ⟨a1, a2, a3, a4⟩ := e hq (by decide) (by decide)
      exact znw_le a1 a2 a3 (fun _ => rfl)
    | false =>
      cases hq9 : ztg k == 9 with
      | true =>
        simp only [hq, hq9, cond_true, cond_false] at hs
        cases hs
        obtain ⟨a1, a2, a3, a4⟩ := e hq9 (by decide) (by decide)
        exact znw_le a1 a2 a3 (fun _ => rfl)
      | false =>
        simp only [hq, hq9, cond_false] at hs
        cases hs
  · rename_i k x st2
    cases hq : ztg k == 1 with
    | false => simp only [hq, cond_false] at hs; cases hs
    | true =>
      simp only [hq, cond_true] at hs
      obtain ⟨a1, a2, a3, a4⟩ := e hq (by decide) (by decide)
      split at hs
      · cases hs
      · cases hs
        exact znw_le a1 a2 a3 (fun z => absurd (a4.symm.trans z) (by decide))
  · rename_i k x st2
    cases hq : ztg k == 2 with
    | false => simp only [hq, cond_false] at hs; cases hs
    | true =>
      simp only [hq, cond_true] at hs
      obtain ⟨a1, a2, a3, a4⟩ := e hq (by decide) (by decide)
      split at hs
      · cases hs
      · cases hs
        exact znw_le a1 a2 a3 (fun z => absurd (a4.symm.trans z) (by decide))
  · rename_i k x st2
    cases hq : ztg k == 3 with
    | false => simp only [hq, cond_false] at hs; cases hs
    | true =>
      simp only [hq, cond_true] at hs
      obtain ⟨a1, a2, a3, a4⟩ := e hq (by decide) (by decide)
      split at hs
      · cases hs
      · cases hs
        exact znw_le a1 a2 a3 (fun z => absurd (a4.symm.trans z) (by decide))
  · rename_i k x st2
    cases hq : ztg k == 4 with
    | false => simp only [hq, cond_false] at hs; cases hs
    | true =>
      simp only [hq, cond_true] at hs
      obtain ⟨a1, a2, a3, a4⟩ := e hq (by decide) (by decide)
      split at hs
      · cases hs
      · cases hs
        exact znw_le a1 a2 a3 (fun z => absurd (a4.symm.trans z) (by decide))
  · rename_i k x st2
    cases hq : ztg k == 5 with
    | false => simp only [hq, cond_false] at hs; cases hs
    | true =>
      simp only [hq, cond_true] at hs
      obtain ⟨a1, a2, a3, a4⟩ := e hq (by decide) (by decide)
      split at hs
      · cases hs
      · cases hs
        exact znw_le a1 a2 a3 (fun z => absurd (a4.symm.trans z) (by decide))
  · rename_i ci k i st2
    cases hq : ztg k == 0 && zkc k == ci with
    | false => simp only [hq, cond_false] at hs; cases hs
    | true =>
      simp only [hq, cond_true] at hs
      cases hs
      exact zle.rf _
  · cases hs
theorem zadd_ex {h h' : zH} {k i n : Nat} (hc : zct h' = zct h) (hl : ∀ k' i', zln h' k' i' = if k' = k ∧ i' = i then n else zln h k' i') (hn : zln h k i ≤ n) (k' i' : Nat) (hx : zex h k' i') : zex h' k' i' := by
  unfold zex at hx ⊢
  rw [hc]
  by_cases hk : 1000 ≤ k'
  · rw [if_pos hk] at hx ⊢
    rw [hl]
    refine ⟨hx.1, hx.2.1, ?_⟩
    by_cases e : k' - 1000 = k ∧ i' = i
    · rw [if_pos e]
      have := hx.2.2
      rw [e.1, e.2] at this
      omega
    · rw [if_neg e]
      exact hx.2.2
  · rw [if_neg hk] at hx ⊢
    exact hx
theorem zLib_in {w pc : Nat} {L : zLs} {st : List zV} {h : zH} {c : zC} (hs : zsLib w pc L st h = some c) : zsLib0 w pc L st h = some c ∧ st.length ≤ 5 := by
  unfold zsLib at hs
  cases hb : Nat.ble st.length 5 with
  | true =>
    rw [hb, cond_true] at hs
    exact ⟨hs, Nat.le_of_ble_eq_true hb⟩
  | false =>
    rw [hb] at hs
    cases hs
theorem zB_le {w pc : Nat} {L : zLs} {st : List zV} {h : zH} {c : zC} (hs : zsLib w pc L st h = some c) : zle h c.2.2.2 := by
  replace hs := (zLib_in hs).1
  unfold zsLib0 at hs
  split at hs
  · cases hs
    exact zle.rf _
  · rename_i k i st2
    simp only [cond_eq_ite] at hs
    split at hs
    · split at hs
      · cases hs
        exact (zse_i _ _ _ _ _).le
      · cases hs
    · cases hs
  · simp only [cond_eq_ite] at hs
    split at hs
    · split at hs
      · cases hs
        exact zle.rf _
      · cases hs
    · cases hs
  · simp only [cond_eq_ite] at hs
    split at hs
    · split at hs
      · split at hs
        · cases hs
        · cases hs
          exact zle.rf _
      · cases hs
    · cases hs
  · rename_i k2 i2 k i st2
    simp only [cond_eq_ite] at hs
    split at hs
    · split at hs
      · simp only [Option.some.injEq] at hs
        subst hs
        show zle h (if zcap (zln h k i) = zln h k i then _ else _)
        by_cases hc : zcap (zln h k i) = zln h k i
        · rw [if_pos hc]
          exact ⟨Nat.le_succ _, Nat.le_add_right _ _, zadd_ex (n := zln h k i + 1) (k := k) (i := i) rfl (fun _ _ => rfl) (Nat.le_succ _)⟩
        · rw [if_neg hc]
          exact ⟨Nat.le_refl _, Nat.le_refl _, zadd_ex (n := zln h k i + 1) (k := k) (i := i) rfl (fun _ _ => rfl) (Nat.le_succ _)⟩
      · cases hs
    · cases hs
  · simp only [cond_eq_ite] at hs
    split at hs
    · split at hs
      · cases hs
      · cases hs
        exact znw_le (by decide) (by decide) (by decide) (fun z => absurd z (by decide))
    · cases hs
  · cases hs
    exact zle.rf _
  · cases hs
theorem zstp_le {o : zOp} {pc : Nat} {L : zLs} {st : List zV} {h : zH} {c : zC} (hs : zstp o pc L st h = some c) : zle h c.2.2.2 := by
  unfold zstp at hs
  split at hs
  · rw [zL_le hs]; exact zle.rf _
  · rw [zN_le hs]; exact zle.rf _
  · rw [zC_le hs]; exact zle.rf _
  · rw [zI_le hs]; exact zle.rf _
  · rw [zS_le hs]; exact zle.rf _
  · exact zF_le hs
  · exact zA_le hs
  · exact zW_le hs
  · exact zB_le hs
  · cases hs
theorem zrun_le (P : zP) : ∀ (n mi pc : Nat) (L : zLs) (st : List zV) (h : zH) (out : zO) (h' : zH), zrun P n mi pc L st h = some (out, h') → zle h h' := by
  intro n
  induction n with
  | zero => intro mi pc L st h out h' hs; cases hs
  | succ n ih =>
    intro mi pc L st h out h' hs
    unfold zrun at hs
    split at hs
    · cases hs
    · split at hs
      · split at hs
        · cases hs
        · rename_i as st' _
          simp only [cond_eq_ite] at hs
          split at hs
          · split at hs
            · cases hs
            · rename_i h1 hr
              exact (ih _ _ _ _ _ _ _ hr).tr (ih _ _ _ _ _ _ _ hs)
            · rename_i v h1 hr
              exact (ih _ _ _ _ _ _ _ hr).tr (ih _ _ _ _ _ _ _ hs)
            · rename_i E h1 hr
              split at hs
              · split at hs
                · cases hs
                  exact ih _ _ _ _ _ _ _ hr
                · split at hs
                  · cases hs
                    exact ih _ _ _ _ _ _ _ hr
                  · cases hs
              · cases hs
          · cases hs
      · split at hs
        · cases hs
        · cases hs
          exact zle.rf _
      · split at hs
        · cases hs
          exact ⟨Nat.le_succ _, Nat.le_add_right _ _, fun _ _ z => z⟩
        · cases hs
      · split at hs
        · cases hs
        · rename_i c hc
          exact (zstp_le hc).tr (ih _ _ _ _ _ _ _ hs)
