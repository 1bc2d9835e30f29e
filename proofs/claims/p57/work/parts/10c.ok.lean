/-! Values that are there stay so in locals and on the stack. -/
theorem zset_ok {h : zH} {L : zLs} {i : Nat} {v : zV} (hL : ∀ i v, zget L i = some v → zokv h v) (hv : zokv h v) (j : Nat) (w : zV) (hj : zget (zset L i v) j = some w) : zokv h w := by
  have key : ∀ j w, zget (zpre (L.set i (some v)) i) j = some w → zokv h w := by
    intro j w hj
    obtain ⟨h1, -⟩ := zpre_get hj
    rw [zget_set] at h1
    by_cases e : i = j
    · rw [if_pos e] at h1
      split at h1
      · cases h1
        exact hv
      · cases h1
    · rw [if_neg e] at h1
      exact hL _ _ h1
  unfold zset at hj
  cases hc : zcat v == 2 with
  | true =>
    rw [hc, cond_true, zget_set] at hj
    by_cases e : i + 1 = j
    · rw [if_pos e] at hj
      split at hj <;> cases hj
    · rw [if_neg e] at hj
      exact key _ _ hj
  | false =>
    rw [hc, cond_false] at hj
    exact key _ _ hj
theorem zL_ok {o : Instr} {as : List Nat} {pc : Nat} {L : zLs} {st : List zV} {h : zH} {c : zC} (hs : zsLoc o as pc L st h = some c) (hL : ∀ i v, zget L i = some v → zokv h v) (hv : ∀ v ∈ st, zokv h v) : (∀ i v, zget c.2.1 i = some v → zokv h v) ∧ ∀ v ∈ c.2.2.1, zokv h v := by
  have hc : ∀ {v : zV} {st : List zV}, zokv h v → (∀ v ∈ st, zokv h v) → ∀ w ∈ v :: st, zokv h w := fun a b => List.forall_mem_cons.mpr ⟨a, b⟩
  unfold zsLoc at hs
  split at hs <;> first
    | (cases hs; exact ⟨hL, hc trivial hv⟩)
    | (cases hs; done)
    | (obtain ⟨v, hz, hs⟩ := Option.bind_eq_some_iff.mp hs; split at hs <;> first
        | (cases hs; exact ⟨hL, hc trivial hv⟩)
        | (cases hs; exact ⟨hL, hc (hL _ _ hz) hv⟩)
        | (cases hs; exact ⟨fun j w hj => zset_ok (v := zI _) hL (show zokv h (zI _) from trivial) j w hj, hv⟩)
        | (cases hs; done))
    | (split at hs <;> first
        | (cases hs; exact ⟨hL, hc trivial hv⟩)
        | (cases hs; exact ⟨fun j w hj => zset_ok hL (hv _ List.mem_cons_self) j w hj, fun w hw => hv w (List.mem_cons_of_mem _ hw)⟩)
        | (cases hs; done)
        | (rename_i v _; cases hq : zcat v == 1 <;> simp only [hq, cond_true, cond_false] at hs <;> first
          | (cases hs; exact ⟨hL, hc (hv _ List.mem_cons_self) hv⟩)
          | (cases hs; exact ⟨hL, fun w hw => hv w (List.mem_cons_of_mem _ hw)⟩)
          | (cases hs; done))
        | (rename_i v w _; cases hq : zcat v == 1 && zcat w == 1 <;> simp only [hq, cond_true, cond_false] at hs <;> first
          | (cases hs; exact ⟨hL, hc (hv _ List.mem_cons_self) (hc (hv _ (List.mem_cons_of_mem _ List.mem_cons_self)) hv)⟩)
          | (cases hs; done)))
theorem zN_ok {o : Instr} {pc : Nat} {L : zLs} {st : List zV} {h : zH} {c : zC} (hs : zsNum o pc L st h = some c) (hv : ∀ v ∈ st, zokv h v) : ∀ v ∈ c.2.2.1, zokv h v := by
  have h2 : ∀ {v a b : zV} {st : List zV}, zokv h v → (∀ v ∈ a :: b :: st, zokv h v) → ∀ w ∈ v :: st, zokv h w := fun a b => List.forall_mem_cons.mpr ⟨a, fun w hw => b w (List.mem_cons_of_mem _ (List.mem_cons_of_mem _ hw))⟩
  have h1 : ∀ {v a : zV} {st : List zV}, zokv h v → (∀ v ∈ a :: st, zokv h v) → ∀ w ∈ v :: st, zokv h w := fun a b => List.forall_mem_cons.mpr ⟨a, fun w hw => b w (List.mem_cons_of_mem _ hw)⟩
  unfold zsNum at hs
  split at hs <;> first
    | (cases hs; exact h2 trivial hv)
    | (cases hs; exact h1 trivial hv)
    | (cases hs; done)
    | (split at hs <;> first | (cases hs; exact h2 trivial hv) | (cases hs; exact h1 trivial hv) | cases hs)
theorem zC_ok {o : Instr} {pc : Nat} {L : zLs} {st : List zV} {h : zH} {c : zC} (hs : zsCmp o pc L st h = some c) (hv : ∀ v ∈ st, zokv h v) : ∀ v ∈ c.2.2.1, zokv h v := by
  have h2 : ∀ {v a b : zV} {st : List zV}, zokv h v → (∀ v ∈ a :: b :: st, zokv h v) → ∀ w ∈ v :: st, zokv h w := fun a b => List.forall_mem_cons.mpr ⟨a, fun w hw => b w (List.mem_cons_of_mem _ (List.mem_cons_of_mem _ hw))⟩
  unfold zsCmp at hs
  split at hs <;> first
    | (cases hs; exact h2 trivial hv)
    | (cases hs; done)
theorem zI_ok {o : Instr} {t pc : Nat} {L : zLs} {st : List zV} {h : zH} {c : zC} (hs : zsIf o t pc L st h = some c) (hv : ∀ v ∈ st, zokv h v) : (c.1 = t ∨ c.1 = pc + 1) ∧ ∀ v ∈ c.2.2.1, zokv h v := by
  have h1 : ∀ {a : zV} {st : List zV}, (∀ v ∈ a :: st, zokv h v) → ∀ w ∈ st, zokv h w := fun b w hw => b w (List.mem_cons_of_mem _ hw)
  have hi : ∀ {P : Prop} [Decidable P], ((if P then t else pc + 1) = t ∨ (if P then t else pc + 1) = pc + 1) := fun {P} _ => by by_cases h : P <;> simp [h]
  have hj : ∀ {P : Prop} [Decidable P], ((if P then pc + 1 else t) = t ∨ (if P then pc + 1 else t) = pc + 1) := fun {P} _ => by by_cases h : P <;> simp [h]
  unfold zsIf at hs
  split at hs <;> first
    | (cases hs; exact ⟨Or.inl rfl, hv⟩)
    | (cases hs; exact ⟨Or.inl rfl, h1 hv⟩)
    | (cases hs; exact ⟨Or.inr rfl, h1 hv⟩)
    | (cases hs; exact ⟨hi, h1 hv⟩)
    | (cases hs; exact ⟨hj, h1 hv⟩)
    | (cases hs; exact ⟨hi, h1 (h1 hv)⟩)
    | (cases hs; exact ⟨hj, h1 (h1 hv)⟩)
    | (cases hs; done)
    | (obtain ⟨x, -, hs⟩ := Option.bind_eq_some_iff.mp hs; obtain ⟨y, -, hs⟩ := Option.bind_eq_some_iff.mp hs; first | (cases hs; exact ⟨hi, h1 (h1 hv)⟩) | (cases hs; exact ⟨hj, h1 (h1 hv)⟩))
theorem zS_ok {o : Instr} {d : Nat} {ts : List Nat} {L : zLs} {st : List zV} {h : zH} {c : zC} (hs : zsSw o d ts L st h = some c) (hv : ∀ v ∈ st, zokv h v) : ∀ v ∈ c.2.2.1, zokv h v := by
  unfold zsSw at hs
  split at hs
  · split at hs
    · cases hs
      exact fun w hw => hv w (List.mem_cons_of_mem _ hw)
    · obtain ⟨x, -, hs⟩ := Option.map_eq_some_iff.mp hs
      cases hs
      exact fun w hw => hv w (List.mem_cons_of_mem _ hw)
  · cases hs
