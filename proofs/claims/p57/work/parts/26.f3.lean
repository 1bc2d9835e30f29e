/-! What the theorem asks of calls. -/
def zix (kd : Nat) (o : Instr) : Option Nat := match kd, o with
  | 0, .invokevirtual i => some i
  | 1, .invokestatic i => some i
  | 2, .invokespecial i => some i
  | 3, .invokestatic i => some i
  | 4, .invokespecial i => some i
  | 5, .invokestatic i => some i
  | _, _ => none
def zTMq (ow idx mj kd na ci : Nat) (e : List Nat) : Bool := match e with
  | [a, b, c, d, f, g, _, _, _, _, _] => Nat.beq a ow && (Nat.beq b idx && (Nat.beq c mj && (Nat.beq d kd && (Nat.beq f na && Nat.beq g ci))))
  | _ => false
noncomputable def zck3 (mi : Nat) (o : zOp) : Bool := match o.2.1 with
  | 9 :: mj :: na :: ci :: kd :: _ => (match zix kd o.1.1 with
    | some idx => (zTM.any (zTMq (zon mi) idx mj kd na ci)) && (bif Nat.beq kd 3 || Nat.beq kd 4 then zNL.any fun e => Nat.beq e.1 (zon mi) && (Nat.beq e.2.1 idx && Nat.beq e.2.2.1 mj) else true)
    | none => false) && (Nat.ble (zMt.2.2.2.2.1 mj + 1) (zMt.2.2.2.2.1 mi) && Nat.ble (8 + ((zPr.2.1 mj).1 + 11) + zMt.2.2.2.2.2 mj) (zMt.2.2.2.2.2 mi))
  | _ => true
theorem zpn_ok {mj k na : Nat} (h : zpn mj k na = true) : (parseMethodDescriptor (zMt.1 mj).desc).map (fun d => d.parameters.length + k) = some na := by
  unfold zpn at h
  split at h
  · rename_i d hd
    rw [hd, Option.map_some, Nat.eq_of_beq_eq_true h]
  · cases h
theorem zck3_ok {mi : Nat} {o : zOp} {X : State → Prop} (hX : ∀ s, X s → zXN s) (hown : zcn[zon mi]? = some (zMt.1 mi).cls) (h : zck3 mi o = true) : ∀ mj na ci kd a, o.2.1 = 9 :: mj :: na :: ci :: kd :: a →
    (∃ o0, zPr.1 mj 0 = some o0 ∧ o0.1.2 = 0) ∧ plainName (zMt.1 mj).cls = true ∧ ((zMt.1 mj).cls ≠ "java/lang/invoke/MethodHandle" ∧ (zMt.1 mj).cls ≠ "java/lang/invoke/VarHandle") ∧
    Cond.initialized (zMt.1 mj).cls ∈ zTs ∧ zcw zPr zMt mj ∈ zTs ∧ zMt.2.2.2.2.1 mj + 1 ≤ zMt.2.2.2.2.1 mi ∧ 8 + ((zPr.2.1 mj).1 + 11) + zMt.2.2.2.2.2 mj ≤ zMt.2.2.2.2.2 mi ∧
    ((kd = 0 ∧ zMt.2.2.2.1 mj = [] ∧ ∃ idx, o.1.1 = .invokevirtual idx ∧ (∃ (C : String) (T : u_T) (N : Nat), zcl[ci]? = some (C, T, N) ∧ ci ≠ 99 ∧ (zMt.1 mj).cls = C) ∧ (parseMethodDescriptor (zMt.1 mj).desc).map (fun d => d.parameters.length + 1) = some na ∧ Cond.methodLink (zMt.1 mi).cls idx (zMt.1 mj) ∈ zTs ∧ Cond.instanceMethod (zMt.1 mj) ∈ zTs ∧ Cond.selects (zMt.1 mj).cls (zMt.1 mj) (zMt.1 mj) ∈ zTs) ∨
     (kd = 1 ∧ zMt.2.2.2.1 mj = [] ∧ ∃ idx, o.1.1 = .invokestatic idx ∧ (parseMethodDescriptor (zMt.1 mj).desc).map (fun d => d.parameters.length) = some na ∧ Cond.methodLink (zMt.1 mi).cls idx (zMt.1 mj) ∈ zTs ∧ Cond.static (zMt.1 mj) ∈ zTs) ∨
     (kd = 2 ∧ zMt.2.2.2.1 mj = [] ∧ ∃ idx, o.1.1 = .invokespecial idx ∧ ci ≠ 99 ∧ (zMt.1 mj).name = "<init>" ∧ zMt.2.2.1 mj = none ∧ (parseMethodDescriptor (zMt.1 mj).desc).map (fun d => d.parameters.length + 1) = some na ∧ Cond.methodLink (zMt.1 mi).cls idx (zMt.1 mj) ∈ zTs ∧ Cond.instanceMethod (zMt.1 mj) ∈ zTs) ∨
     (kd = 3 ∧ zMt.2.2.2.1 mj = [] ∧ ∃ idx host, o.1.1 = .invokestatic idx ∧ (parseMethodDescriptor (zMt.1 mj).desc).map (fun d => d.parameters.length) = some na ∧ (∀ s, X s → va_Nw (.methodLinkNest (zMt.1 mi).cls idx (zMt.1 mj) host) s) ∧ Cond.static (zMt.1 mj) ∈ zTs) ∨
     (kd = 4 ∧ zMt.2.2.2.1 mj = [] ∧ ∃ idx host, o.1.1 = .invokespecial idx ∧ ci ≠ 99 ∧ (zMt.1 mj).name = "<init>" ∧ zMt.2.2.1 mj = none ∧ (parseMethodDescriptor (zMt.1 mj).desc).map (fun d => d.parameters.length + 1) = some na ∧ (∀ s, X s → va_Nw (.methodLinkNest (zMt.1 mi).cls idx (zMt.1 mj) host) s) ∧ Cond.instanceMethod (zMt.1 mj) ∈ zTs) ∨
     (kd = 5 ∧ (∃ x lh, zMt.2.2.2.1 mj = x :: lh) ∧ ∃ idx, o.1.1 = .invokestatic idx ∧ (parseMethodDescriptor (zMt.1 mj).desc).map (fun d => d.parameters.length) = some na ∧ Cond.methodLink (zMt.1 mi).cls idx (zMt.1 mj) ∈ zTs ∧ Cond.static (zMt.1 mj) ∈ zTs)) := by
  intro mj na ci kd a e
  have h0 : ∃ idx, zix kd o.1.1 = some idx ∧ (zTM.any (zTMq (zon mi) idx mj kd na ci)) = true ∧ ((kd = 3 ∨ kd = 4) → (zNL.any fun e => Nat.beq e.1 (zon mi) && (Nat.beq e.2.1 idx && Nat.beq e.2.2.1 mj)) = true) ∧ zMt.2.2.2.2.1 mj + 1 ≤ zMt.2.2.2.2.1 mi ∧ 8 + ((zPr.2.1 mj).1 + 11) + zMt.2.2.2.2.2 mj ≤ zMt.2.2.2.2.2 mi := by
    unfold zck3 at h
    rw [e] at h
    have h : ((match zix kd o.1.1 with
      | some idx => (zTM.any (zTMq (zon mi) idx mj kd na ci)) && (bif Nat.beq kd 3 || Nat.beq kd 4 then zNL.any fun e => Nat.beq e.1 (zon mi) && (Nat.beq e.2.1 idx && Nat.beq e.2.2.1 mj) else true)
      | none => false) && (Nat.ble (zMt.2.2.2.2.1 mj + 1) (zMt.2.2.2.2.1 mi) && Nat.ble (8 + ((zPr.2.1 mj).1 + 11) + zMt.2.2.2.2.2 mj) (zMt.2.2.2.2.2 mi))) = true := h
    rw [Bool.and_eq_true, Bool.and_eq_true] at h
    obtain ⟨h1, h2, h3⟩ := h
    split at h1
    · rename_i idx hi
      rw [Bool.and_eq_true] at h1
      refine ⟨idx, hi, h1.1, fun hk => ?_, Nat.le_of_ble_eq_true h2, Nat.le_of_ble_eq_true h3⟩
      have h4 := h1.2
      rcases hk with rfl | rfl <;> exact h4
    · cases h1
  obtain ⟨idx, hix, h1, hnl, h2, h3⟩ := h0
  obtain ⟨w, hw, hq⟩ := List.any_eq_true.mp h1
  have hb := zTM_b w hw
  unfold zTMq at hq
  split at hq
  · rename_i a1 a2 a3 a4 a5 a6 i1 i2 i3 i4 i5
    simp only [Bool.and_eq_true, Nat.beq_eq] at hq
    obtain ⟨rfl, rfl, rfl, rfl, rfl, rfl⟩ := hq
    unfold zTMb at hb
    dsimp only at hb
    rw [hown] at hb
    dsimp only at hb
    rw [Bool.and_eq_true, Bool.and_eq_true] at hb
    obtain ⟨hm, hc, hk⟩ := hb
    unfold zMmb at hm
    simp only [Bool.and_eq_true, decide_eq_true_eq] at hm
    obtain ⟨⟨⟨⟨m1, m2⟩, m3⟩, m4⟩, m5⟩ := hm
    have hN : (a4 = 3 ∨ a4 = 4) → ∃ host, Cond.methodLinkNest (zMt.1 mi).cls a2 (zMt.1 a3) host ∈ zXW := by
      intro hk2
      obtain ⟨⟨b1, b2, b3, b4, b5⟩, hin, hq2⟩ := List.any_eq_true.mp (hnl hk2)
      simp only [Bool.and_eq_true, Nat.beq_eq] at hq2
      obtain ⟨rfl, rfl, rfl⟩ := hq2
      have h9 := List.all_eq_true.mp zNL_b _ hin
      unfold zNLb at h9
      dsimp only at h9
      rw [hown] at h9
      exact ⟨b5, zxd_in h9⟩
    refine ⟨?_, m2, ⟨m3, m4⟩, zwd_in m5, ?_, h2, h3, ?_⟩
    · unfold zbyteAt at m1
      split at m1
      · rename_i o0 ho0
        exact ⟨o0, ho0, Nat.eq_of_beq_eq_true m1⟩
      · cases m1
    · obtain ⟨⟨b1, b2⟩, hin, hq2⟩ := List.any_eq_true.mp hc
      simp only [Bool.and_eq_true, Nat.beq_eq] at hq2
      obtain ⟨rfl, rfl⟩ := hq2
      exact zcwL_in hin
    · unfold zTMk at hk
      unfold zix at hix
      split at hix <;> first
        | (cases hix; done)
        | skip
      · rename_i i hi
        cases hix
        simp only [Bool.and_eq_true] at hk
        obtain ⟨k1, k2, k3, k4, k5, k6⟩ := hk
        cases hc : zcl[a6]? with
        | none => rw [hc] at k2; cases k2
        | some q =>
          obtain ⟨C, T, N⟩ := q
          rw [hc] at k2
          refine Or.inl ⟨rfl, List.isEmpty_iff.mp k1, _, hi, ⟨C, T, N, rfl, ?_, of_decide_eq_true k2⟩, zpn_ok k3, zwd_in k4, zwd_in k5, zwd_in k6⟩
          rintro rfl
          cases hc
      · rename_i i hi
        cases hix
        simp only [Bool.and_eq_true] at hk
        obtain ⟨k1, k3, k4, k5⟩ := hk
        exact Or.inr (Or.inl ⟨rfl, List.isEmpty_iff.mp k1, _, hi, zpn_ok k3, zwd_in k4, zwd_in k5⟩)
      · rename_i i hi
        cases hix
        simp only [Bool.and_eq_true, Bool.not_eq_true', decide_eq_true_eq, Option.isNone_iff_eq_none] at hk
        obtain ⟨k1, k2, k3, k4, k5, k6, k7⟩ := hk
        exact Or.inr (Or.inr (Or.inl ⟨rfl, List.isEmpty_iff.mp k1, _, hi, (fun z => by rw [z] at k2; cases k2), k3, k4, zpn_ok k5, zwd_in k6, zwd_in k7⟩))
      · rename_i i hi
        cases hix
        simp only [Bool.and_eq_true] at hk
        obtain ⟨k1, k3, k5⟩ := hk
        obtain ⟨host, hh⟩ := hN (Or.inl rfl)
        exact Or.inr (Or.inr (Or.inr (Or.inl ⟨rfl, List.isEmpty_iff.mp k1, _, host, hi, zpn_ok k3, fun s hs => hX s hs _ hh, zwd_in k5⟩)))
      · rename_i i hi
        cases hix
        simp only [Bool.and_eq_true, Bool.not_eq_true', decide_eq_true_eq, Option.isNone_iff_eq_none] at hk
        obtain ⟨k1, k2, k3, k4, k5, k7⟩ := hk
        obtain ⟨host, hh⟩ := hN (Or.inr rfl)
        exact Or.inr (Or.inr (Or.inr (Or.inr (Or.inl ⟨rfl, List.isEmpty_iff.mp k1, _, host, hi, (fun z => by rw [z] at k2; cases k2), k3, k4, zpn_ok k5, fun s hs => hX s hs _ hh, zwd_in k7⟩))))
      · rename_i i hi
        cases hix
        simp only [Bool.and_eq_true, Bool.not_eq_true'] at hk
        obtain ⟨k1, k3, k4, k5⟩ := hk
        refine Or.inr (Or.inr (Or.inr (Or.inr (Or.inr ⟨rfl, ?_, _, hi, zpn_ok k3, zwd_in k4, zwd_in k5⟩))))
        have k1 : (zMt.2.2.2.1 a3).isEmpty = false := k1
        cases hz : zMt.2.2.2.1 a3 with
        | nil => rw [hz] at k1; cases k1
        | cons x lh => exact ⟨x, lh, rfl⟩
  · cases hq
