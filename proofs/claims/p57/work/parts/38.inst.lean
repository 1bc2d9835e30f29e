/-! All that is so of every state; the soundness of the small machine at the program's tables. -/
def zAOl : List String := [RX0, RX9, RX8, RX2]
def zXq (G : zG) (m0 : Nat) (s : State) : Prop := zXN s ∧ zXT G s ∧ zXC s ∧ zXL G m0 s ∧ ∀ C ∈ zAOl, va_AO C s
theorem zXq_moved {G : zG} {m0 : Nat} {s U : State} {H : Heap} {locs : List Loc} (h : zXq G m0 s) (hS : va_S G.2.2.2.1 s.heap H locs) (hU : U.heap = H) (hW : s.WarmedH U.vm) : zXq G m0 U :=
  ⟨zXN_moved hW h.1, zXT_moved h.2.1 hS hU hW, zXC_moved hW h.2.2.1, zXL_moved h.2.2.2.1 hS hU hW, fun C hC => (h.2.2.2.2 C hC).moved hW.alike⟩
theorem zXq_calling {G : zG} {m0 : Nat} {U : State} {g : JFrame} {mk : MethodId} {a : Array Value} (h : zXq G m0 U) : zXq G m0 (State.calling U g mk a) :=
  ⟨zXN_calling h.1, zXT_calling h.2.1, zXC_calling h.2.2.1, zXL_calling h.2.2.2.1, fun C hC => (h.2.2.2.2 C hC).moved (u := U) (U := U.calling g mk a) (Vm.Alike.refl U.vm)⟩
theorem zXq_ok {G : zG} {m0 : Nat} : zXok G (zXq G m0) := ⟨fun _ _ _ _ h hS hU hW => zXq_moved h hS hU hW, fun _ _ _ _ h => zXq_calling h⟩
theorem zk5 {k : Nat} (h : ztg k = 5) : zkc k = 0 ∨ zkc k = 9 ∨ zkc k = 8 ∨ zkc k = 2 := by
  have hk : k < 100 := by
    by_cases h1 : k < 100
    · exact h1
    · exfalso
      unfold ztg at h
      rw [Nat.ble_eq.mpr (by omega), cond_true] at h
      cases h2 : Nat.ble 200 k <;> rw [h2] at h
      · cases h
      · rw [cond_true] at h
        cases h3 : Nat.ble 300 k <;> rw [h3] at h <;> cases h
  have : ∀ k, k < 100 → ztg k = 5 → zkc k = 0 ∨ zkc k = 9 ∨ zkc k = 8 ∨ zkc k = 2 := by decide
  exact this k hk h
theorem zharr : (∀ t, (Cond.arrayClass t) ∈ zTs ∨ ¬ (t = .int ∨ t = .boolean)) := by
  have h1 : Cond.arrayClass .int ∈ zTs := zwd_in (i := 131) (by decide +kernel)
  have h2 : Cond.arrayClass .boolean ∈ zTs := zwd_in (i := 649) (by decide +kernel)
  intro t
  cases t <;> first
    | exact Or.inl h1
    | exact Or.inl h2
    | exact Or.inr (by intro h; rcases h with h | h <;> cases h)
theorem zsnd {G : zG} {m0 : Nat} : ∀ (n mi pc : Nat) (L : zLs) (st : List zV) (h : zH) (out : zO) (h' : zH), zrun zPr n mi pc L st h = some (out, h') → zGoal zPr zMt G (zXq G m0) mi pc L st h out h' :=
  zsound zF1_ok zF2_ok (zF3_ok fun s h => h.1) (zThrow_ok fun s h => ⟨h.1, h.2.1⟩) (zLib_ok zXq_ok (fun s h => h.1) (fun s h => h.2.2.2.1)) (zHand_ok fun s h => ⟨h.1, h.2.2.1⟩) zhh zAL zharr
    (fun _ _ _ _ h hS hU hW => zXq_moved h hS hU hW) (fun _ _ _ _ h => zXq_calling h) (fun s h k C T N hk hc => by
      have hC : C ∈ zAOl := by
        rcases zk5 hk with e | e | e | e <;> rw [e] at hc <;> cases hc <;> simp [zAOl]
      exact h.2.2.2.2 C hC)
