/-! What the tables say of fields, makings, constants. -/
noncomputable def zck2f (mi : Nat) (put : Bool) (idx : Nat) (a : List Nat) : Bool := match a with
  | [ci, j, t] => Nat.beq t (zft ci j) && (zTF.any fun e => Nat.beq e.1 (zon mi) && (Nat.beq e.2.1 idx && (Nat.beq e.2.2.1 ci && Nat.beq e.2.2.2.1 j))) &&
    (bif put then (match zcl[ci]? with
      | some (C, T, _) => !(T j).2.2.2 || (decide ((zMt.1 mi).name = "<init>") && decide (C = (zMt.1 mi).cls))
      | none => false) else true)
  | _ => false
noncomputable def zck2 (mi : Nat) (o : zOp) : Bool := match o.2.1 with
  | 0 :: a => (match o.1.1, a with
    | .ldc i, [n] => zTK.any fun e => Nat.beq e.1 (zon mi) && (Nat.beq e.2.1 i && Nat.beq e.2.2.1 n)
    | .ldc_w i, [n] => zTK.any fun e => Nat.beq e.1 (zon mi) && (Nat.beq e.2.1 i && Nat.beq e.2.2.1 n)
    | .ldc2_w i, [n] => zTD.any fun e => Nat.beq e.1 (zon mi) && (Nat.beq e.2.1 i && Nat.beq e.2.2.1 n)
    | _, _ => true)
  | 5 :: a => (match o.1.1 with
    | .getfield idx => zck2f mi false idx a
    | .putfield idx => zck2f mi true idx a
    | _ => true)
  | 7 :: a => (match o.1.1, a with
    | .new idx, [k] => (match ztg k with
      | 0 => zTN.any fun e => Nat.beq e.1 (zon mi) && (Nat.beq e.2.1 idx && Nat.beq e.2.2.1 (zkc k))
      | 9 => zTL.any fun e => Nat.beq e.1 (zon mi) && Nat.beq e.2.1 idx
      | _ => true)
    | .anewarray idx, [k] => zTA.any fun e => Nat.beq e.1 (zon mi) && (Nat.beq e.2.1 idx && Nat.beq e.2.2.1 (zkc k))
    | .checkcast idx, [ci] => zTC.any fun e => Nat.beq e.1 (zon mi) && (Nat.beq e.2.1 idx && Nat.beq e.2.2.1 ci)
    | _, _ => true)
  | _ => true
theorem zTC_in {t : List (Nat × Nat × Nat × Nat)} (hb : t.all zTCb = true) {ow idx ci : Nat} {own : String} (hown : zcn[ow]? = some own)
    (h : (t.any fun e => Nat.beq e.1 ow && (Nat.beq e.2.1 idx && Nat.beq e.2.2.1 ci)) = true) : ∃ (C : String) (T : u_T) (N : Nat), zcl[ci]? = some (C, T, N) ∧ Cond.classLink own idx C ∈ zTs := by
  obtain ⟨⟨a1, a2, a3, a4⟩, he, h⟩ := List.any_eq_true.mp h
  simp only [Bool.and_eq_true, Nat.beq_eq] at h
  obtain ⟨rfl, rfl, rfl⟩ := h
  have h2 := List.all_eq_true.mp hb _ he
  unfold zTCb at h2
  dsimp only at h2
  rw [hown] at h2
  cases hc : zcl[a3]? with
  | none => rw [hc] at h2; cases h2
  | some q =>
    obtain ⟨C, T, N⟩ := q
    rw [hc] at h2
    exact ⟨C, T, N, rfl, zwd_in h2⟩
theorem zck2_ok {mi : Nat} {o : zOp} (hown : zcn[zon mi]? = some (zMt.1 mi).cls) (h : zck2 mi o = true) :
    (∀ a, o.2.1 = 0 :: a → (∀ i n, (o.1.1 = .ldc i ∨ o.1.1 = .ldc_w i) → a = [n] → Cond.constant (zMt.1 mi).cls i (nI n) ∈ zTs) ∧ ∀ i n, o.1.1 = .ldc2_w i → a = [n] → Cond.constantDouble (zMt.1 mi).cls i (UInt64.ofNat n) ∈ zTs) ∧
    (∀ a, o.2.1 = 5 :: a → ∀ idx, (o.1.1 = .getfield idx ∨ o.1.1 = .putfield idx) → ∃ ci j, ∃ (C : String) (T : u_T) (N : Nat), a = [ci, j, zft ci j] ∧ ci < 13 ∧ zcl[ci]? = some (C, T, N) ∧ j < N ∧ Cond.fieldLink (zMt.1 mi).cls idx C (T j).2.1 (T j).2.2.1 ∈ zTs ∧
      (o.1.1 = .putfield idx → (T j).2.2.2 = false ∨ ((T j).2.2.2 = true ∧ (zMt.1 mi).name = "<init>" ∧ C = (zMt.1 mi).cls))) ∧
    (∀ a, o.2.1 = 7 :: a → (∀ idx k, o.1.1 = .new idx → a = [k] → ztg k = 0 → ∃ (C : String) (T : u_T) (N : Nat), zcl[zkc k]? = some (C, T, N) ∧ zkc k < 13 ∧ Cond.classLink (zMt.1 mi).cls idx C ∈ zTs ∧ Cond.instantiable C N ∈ zTs ∧ Cond.initialized C ∈ zTs) ∧
      (∀ idx k, o.1.1 = .new idx → a = [k] → ztg k = 9 → Cond.classLink (zMt.1 mi).cls idx RJx4a65c ∈ zTs ∧ Cond.instantiable RJx4a65c 3 ∈ zTs ∧ Cond.initialized RJx4a65c ∈ zTs) ∧
      (∀ idx k, o.1.1 = .anewarray idx → a = [k] → ztg k = 5 → ∃ (C : String) (T : u_T) (N : Nat), zcl[zkc k]? = some (C, T, N) ∧ Cond.classLink (zMt.1 mi).cls idx C ∈ zTs) ∧
      (∀ idx ci, o.1.1 = .checkcast idx → a = [ci] → ∃ (C : String) (T : u_T) (N : Nat), zcl[ci]? = some (C, T, N) ∧ Cond.classLink (zMt.1 mi).cls idx C ∈ zTs)) := by
  have hK : ∀ {i n : Nat}, (zTK.any fun e => Nat.beq e.1 (zon mi) && (Nat.beq e.2.1 i && Nat.beq e.2.2.1 n)) = true → Cond.constant (zMt.1 mi).cls i (nI n) ∈ zTs := by
    intro i n h
    obtain ⟨⟨a1, a2, a3, a4⟩, he, h⟩ := List.any_eq_true.mp h
    simp only [Bool.and_eq_true, Nat.beq_eq] at h
    obtain ⟨rfl, rfl, rfl⟩ := h
    have h2 := List.all_eq_true.mp zTK_b _ he
    unfold zTKb at h2
    dsimp only at h2
    rw [hown] at h2
    exact zwd_in h2
  have hF : ∀ {put : Bool} {idx : Nat} {a : List Nat}, zck2f mi put idx a = true → ∃ ci j, ∃ (C : String) (T : u_T) (N : Nat), a = [ci, j, zft ci j] ∧ ci < 13 ∧ zcl[ci]? = some (C, T, N) ∧ j < N ∧ Cond.fieldLink (zMt.1 mi).cls idx C (T j).2.1 (T j).2.2.1 ∈ zTs ∧
      (put = true → (T j).2.2.2 = false ∨ ((T j).2.2.2 = true ∧ (zMt.1 mi).name = "<init>" ∧ C = (zMt.1 mi).cls)) := by
    intro put idx a h
    unfold zck2f at h
    split at h
    · rename_i ci j t
      simp only [Bool.and_eq_true] at h
      obtain ⟨⟨h0, h1⟩, h3⟩ := h
      obtain ⟨⟨a1, a2, a3, a4, a5⟩, he, h⟩ := List.any_eq_true.mp h1
      simp only [Bool.and_eq_true, Nat.beq_eq] at h
      obtain ⟨rfl, rfl, rfl, rfl⟩ := h
      have h2 := List.all_eq_true.mp zTF_b _ he
      unfold zTFb at h2
      dsimp only at h2
      rw [hown] at h2
      cases hc : zcl[a3]? with
      | none => rw [hc] at h2; cases h2
      | some q =>
        obtain ⟨C, T, N⟩ := q
        rw [hc] at h2 h3
        simp only [Bool.and_eq_true] at h2
        obtain ⟨⟨h4, h5⟩, h6⟩ := h2
        refine ⟨a3, a4, C, T, N, by rw [Nat.eq_of_beq_eq_true h0], Nat.blt_eq.mp h4, hc, Nat.blt_eq.mp h5, zwd_in h6, fun hp => ?_⟩
        rw [hp, cond_true] at h3
        dsimp only at h3
        cases hf : (T a4).2.2.2 with
        | false => exact Or.inl rfl
        | true =>
          rw [hf] at h3
          simp only [Bool.not_true, Bool.false_or, Bool.and_eq_true, decide_eq_true_eq] at h3
          exact Or.inr ⟨rfl, h3.1, h3.2⟩
    · cases h
  unfold zck2 at h
  refine ⟨fun a e => ⟨fun i n hi ha => ?_, fun i n hi ha => ?_⟩, fun a e idx hi => ?_, fun a e => ⟨fun idx k hi ha hk => ?_, fun idx k hi ha hk => ?_, fun idx k hi ha hk => ?_, fun idx ci hi ha => ?_⟩⟩
  · rcases hi with hi | hi <;> (rw [e, hi, ha] at h; exact hK h)
  · rw [e, hi, ha] at h
    obtain ⟨⟨a1, a2, a3, a4⟩, he, h⟩ := List.any_eq_true.mp h
    simp only [Bool.and_eq_true, Nat.beq_eq] at h
    obtain ⟨rfl, rfl, rfl⟩ := h
    have h2 := List.all_eq_true.mp zTD_b _ he
    unfold zTDb at h2
    dsimp only at h2
    rw [hown] at h2
    exact zwd_in h2
  · rcases hi with hi | hi
    · rw [e, hi] at h
      obtain ⟨ci, j, C, T, N, q1, q2, q3, q4, q5, q6⟩ := hF (put := false) h
      exact ⟨ci, j, C, T, N, q1, q2, q3, q4, q5, fun z => by rw [hi] at z; cases z⟩
    · rw [e, hi] at h
      obtain ⟨ci, j, C, T, N, q1, q2, q3, q4, q5, q6⟩ := hF (put := true) h
      exact ⟨ci, j, C, T, N, q1, q2, q3, q4, q5, fun _ => q6 rfl⟩
  · rw [e, hi, ha] at h
    have h : (match ztg k with
      | 0 => zTN.any fun e => Nat.beq e.1 (zon mi) && (Nat.beq e.2.1 idx && Nat.beq e.2.2.1 (zkc k))
      | 9 => zTL.any fun e => Nat.beq e.1 (zon mi) && Nat.beq e.2.1 idx
      | _ => true) = true := h
    rw [hk] at h
    obtain ⟨⟨a1, a2, a3, a4, a5, a6⟩, he, h⟩ := List.any_eq_true.mp h
    simp only [Bool.and_eq_true, Nat.beq_eq] at h
    obtain ⟨rfl, rfl, rfl⟩ := h
    have h2 := List.all_eq_true.mp zTN_b _ he
    unfold zTNb at h2
    dsimp only at h2
    rw [hown] at h2
    cases hc : zcl[zkc k]? with
    | none => rw [hc] at h2; cases h2
    | some q =>
      obtain ⟨C, T, N⟩ := q
      rw [hc] at h2
      simp only [Bool.and_eq_true] at h2
      exact ⟨C, T, N, rfl, Nat.blt_eq.mp h2.1.1.1, zwd_in h2.1.1.2, zwd_in h2.1.2, zwd_in h2.2⟩
  · rw [e, hi, ha] at h
    have h : (match ztg k with
      | 0 => zTN.any fun e => Nat.beq e.1 (zon mi) && (Nat.beq e.2.1 idx && Nat.beq e.2.2.1 (zkc k))
      | 9 => zTL.any fun e => Nat.beq e.1 (zon mi) && Nat.beq e.2.1 idx
      | _ => true) = true := h
    rw [hk] at h
    obtain ⟨⟨a1, a2, a3, a4, a5⟩, he, h⟩ := List.any_eq_true.mp h
    simp only [Bool.and_eq_true, Nat.beq_eq] at h
    obtain ⟨rfl, rfl⟩ := h
    have h2 := List.all_eq_true.mp zTL_b _ he
    unfold zTLb at h2
    dsimp only at h2
    rw [hown] at h2
    simp only [Bool.and_eq_true] at h2
    exact ⟨zwd_in h2.1.1, zwd_in h2.1.2, zwd_in h2.2⟩
  · rw [e, hi, ha] at h
    exact zTC_in zTA_b hown h
  · rw [e, hi, ha] at h
    exact zTC_in zTC_b hown h
theorem zown_b : (List.range 294).all (fun mi => match zcn[zon mi]? with
  | some C => decide (C = (zMt.1 mi).cls)
  | none => false) = true := by decide +kernel
theorem zown_ok {mi : Nat} (h : mi < 294) : zcn[zon mi]? = some (zMt.1 mi).cls := by
  have h1 := List.all_eq_true.mp zown_b mi (List.mem_range.mpr h)
  split at h1
  · rename_i C hC
    rw [hC, of_decide_eq_true h1]
  · cases h1
