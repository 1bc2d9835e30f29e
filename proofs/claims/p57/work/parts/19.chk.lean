/-! The program is what its bytes say, and what the tables say. -/
def zallC (f : Nat → zOp → Bool) : Nat → List zOp → Bool
  | _, [] => true
  | n, o :: l => f n o && zallC f (n + 1) l
def zallB (f : Nat → zOp → Bool) : Nat → List (List zOp) → Bool
  | _, [] => true
  | n, c :: cs => zallC f n c && zallB f (n + 16) cs
theorem zallC_at {f : Nat → zOp → Bool} : ∀ {l : List zOp} {n : Nat}, zallC f n l = true → ∀ {i : Nat} {o : zOp}, l[i]? = some o → f (n + i) o = true
  | [], _, _, i, o, h => by cases h
  | x :: l, n, h, i, o, ho => by
    rw [zallC, Bool.and_eq_true] at h
    match i, ho with
    | 0, ho =>
      cases ho
      exact h.1
    | i + 1, ho =>
      have := zallC_at h.2 (i := i) ho
      rw [show n + (i + 1) = n + 1 + i by omega]
      exact this
theorem zallB_at {f : Nat → zOp → Bool} : ∀ {cs : List (List zOp)} {n : Nat}, zallB f n cs = true → ∀ {a : Nat} {c : List zOp}, cs[a]? = some c → zallC f (n + 16 * a) c = true
  | [], _, _, a, c, h => by cases h
  | x :: l, n, h, a, c, ho => by
    rw [zallB, Bool.and_eq_true] at h
    match a, ho with
    | 0, ho =>
      cases ho
      exact h.1
    | a + 1, ho =>
      have := zallB_at h.2 (a := a) ho
      rw [show n + 16 * (a + 1) = n + 16 + 16 * a by omega]
      exact this
theorem zallB_app {f : Nat → zOp → Bool} : ∀ {cs ds : List (List zOp)} {n : Nat}, zallB f n cs = true → zallB f (n + 16 * cs.length) ds = true → zallB f n (cs ++ ds) = true
  | [], ds, n, _, h => h
  | c :: cs, ds, n, h, h2 => by
    rw [zallB, Bool.and_eq_true] at h
    show zallB f n (c :: (cs ++ ds)) = true
    rw [zallB, Bool.and_eq_true]
    refine ⟨h.1, zallB_app h.2 ?_⟩
    rw [show n + 16 + 16 * cs.length = n + 16 * (cs.length + 1) by omega]
    exact h2
theorem zfetch_all {mi : Nat} {f : Nat → zOp → Bool} (h : zallB f 0 (zcode mi) = true) {pc : Nat} {o : zOp} (ho : zfetch mi pc = some o) : f pc o = true := by
  unfold zfetch at ho
  cases hc : (zcode mi)[pc / 16]? with
  | none =>
    rw [hc] at ho
    cases ho
  | some c =>
    rw [hc] at ho
    have h1 := zallC_at (zallB_at h hc) ho
    rw [show 0 + 16 * (pc / 16) + pc % 16 = pc by omega] at h1
    exact h1
def zrtB (k : Nat) (o : Instr) (rt : Option FieldType) : Bool := match k, o, rt with
  | 0, .return_, none => true
  | 1, .ireturn, some .int => true
  | 2, .ireturn, some .boolean => true
  | 3, .areturn, some (.object _) => true
  | 3, .areturn, some (.array _) => true
  | 4, .dreturn, some .double => true
  | 5, .freturn, some .float => true
  | _, _, _ => false
theorem zrtB_ok {k : Nat} {o : Instr} {rt : Option FieldType} (h : zrtB k o rt = true) : zrtO k o rt := by
  unfold zrtB at h
  split at h
  · exact ⟨rfl, rfl⟩
  · exact ⟨rfl, rfl⟩
  · exact ⟨rfl, rfl⟩
  · exact ⟨rfl, _, rfl, Or.inl ⟨_, rfl⟩⟩
  · exact ⟨rfl, _, rfl, Or.inr ⟨_, rfl⟩⟩
  · exact ⟨rfl, rfl⟩
  · exact ⟨rfl, rfl⟩
  · cases h
noncomputable def zbyteAt (mi pc b : Nat) : Bool := match zfetch mi pc with
  | some o => Nat.beq o.1.2 b
  | none => false
noncomputable def ztoAt (mi t b : Nat) (off : Int) : Bool := match zfetch mi t with
  | some o => decide ((b : Int) + off = o.1.2)
  | none => false
noncomputable def zallT (mi b : Nat) : List Nat → List Int → Bool
  | [], _ => true
  | t :: ts, off :: offs => ztoAt mi t b off && zallT mi b ts offs
  | _ :: _, [] => false
theorem zallT_at {mi b : Nat} : ∀ {ts : List Nat} {offs : List Int}, zallT mi b ts offs = true → ∀ (j t : Nat), ts[j]? = some t → ∃ o' off, zfetch mi t = some o' ∧ offs[j]? = some off ∧ (b : Int) + off = o'.1.2
  | [], _, _, j, t, h => by cases h
  | x :: ts, [], h, _, _, _ => by cases h
  | x :: ts, off :: offs, h, j, t, ht => by
    rw [zallT, Bool.and_eq_true] at h
    match j, ht with
    | 0, ht =>
      cases ht
      have h1 := h.1
      unfold ztoAt at h1
      split at h1
      · rename_i o' ho
        exact ⟨o', off, ho, rfl, of_decide_eq_true h1⟩
      · cases h1
    | j + 1, ht => exact zallT_at h.2 j t ht
noncomputable def zckd (mi : Nat) (o : zOp) : Bool := match decode (zMt.2.1 mi) o.1.2 with
  | .ok (i, len) => decide (i = o.1.1) && (Nat.beq len (zlen o.1.1) || (match o.1.1, o.2.1 with
    | .tableswitch _ _ _ _, 4 :: _ => true
    | _, _ => false))
  | _ => false
noncomputable def zckn (mi pc : Nat) (o : zOp) : Bool := match o.2.1 with
  | [] => false
  | g :: _ => bif Nat.ble g 9 && !(Nat.beq g 4) then zbyteAt mi (pc + 1) (o.1.2 + zlen o.1.1) else true
noncomputable def zckb (mi : Nat) (o : zOp) : Bool := match o.2.1 with
  | 3 :: t :: _ => (match zoff o.1.1 with
    | some off => ztoAt mi t o.1.2 off
    | none => false)
  | 4 :: d :: ts => (match o.1.1 with
    | .tableswitch dflt _ _ offs => ztoAt mi d o.1.2 dflt && zallT mi o.1.2 ts offs.toList
    | _ => true)
  | 10 :: _ => zrtB (zPr.2.1 mi).2 o.1.1 (zMt.2.2.1 mi)
  | _ => true
noncomputable def zckl (mi : Nat) (o : zOp) : Bool := (o.2.2.isEmpty || Nat.beq o.2.2.length (zPr.2.1 mi).1) && zsL9 o.1.1 (zPr.2.1 mi).1
def zDc (mi : Nat) (o : zOp) : Prop := decode (zMt.2.1 mi) o.1.2 = .ok (o.1.1, zlen o.1.1) ∨ ∃ d lo hi offs len, o.1.1 = .tableswitch d lo hi offs ∧ decode (zMt.2.1 mi) o.1.2 = .ok (o.1.1, len) ∧ ∃ a, o.2.1 = 4 :: a
theorem zckd_ok {mi : Nat} {o : zOp} (h1 : zckd mi o = true) : zDc mi o := by
  unfold zckd at h1
  split at h1
  · rename_i i len hd
    simp only [Bool.and_eq_true, Bool.or_eq_true] at h1
    obtain ⟨e, h1⟩ := h1
    have e := of_decide_eq_true e
    subst e
    rcases h1 with h1 | h1
    · left
      rw [hd, Nat.eq_of_beq_eq_true h1]
    · right
      split at h1
      · rename_i d lo hi offs a e1 e2
        exact ⟨d, lo, hi, offs, len, e1, hd, a, e2⟩
      · cases h1
  · cases h1
noncomputable def zckR (mi pc : Nat) (o : zOp) : Bool := zckn mi pc o && zckb mi o && zckl mi o
theorem zckR_ok {mi pc : Nat} {o : zOp} (h : zckR mi pc o = true) :
    (o.2.2 = [] ∨ o.2.2.length = (zPr.2.1 mi).1) ∧ zsL9 o.1.1 (zPr.2.1 mi).1 = true ∧
    (∀ g a, o.2.1 = g :: a → g ≤ 9 → g ≠ 4 → ∃ o', zfetch mi (pc + 1) = some o' ∧ o'.1.2 = o.1.2 + zlen o.1.1) ∧
    (∀ t a, o.2.1 = 3 :: t :: a → ∃ o', zfetch mi t = some o' ∧ ∀ off, zoff o.1.1 = some off → (o.1.2 : Int) + off = o'.1.2) ∧
    (∀ d ts, o.2.1 = 4 :: d :: ts → ∀ dflt lo hi offs, o.1.1 = .tableswitch dflt lo hi offs → (∃ o', zfetch mi d = some o' ∧ (o.1.2 : Int) + dflt = o'.1.2) ∧ ∀ (j t : Nat), ts[j]? = some t → ∃ o' off, zfetch mi t = some o' ∧ offs[j]? = some off ∧ (o.1.2 : Int) + off = o'.1.2) ∧
    (∀ a, o.2.1 = 10 :: a → zrtO (zPr.2.1 mi).2 o.1.1 (zMt.2.2.1 mi)) ∧
    (o.2.1 = [] → False) := by
  unfold zckR at h
  simp only [Bool.and_eq_true] at h
  obtain ⟨⟨h2, h3⟩, h4⟩ := h
  unfold zckl at h4
  simp only [Bool.and_eq_true, Bool.or_eq_true] at h4
  refine ⟨?_, h4.2, ?_, ?_, ?_, ?_, ?_⟩
  · rcases h4.1 with h5 | h5
    · exact Or.inl (List.isEmpty_iff.mp h5)
    · exact Or.inr (Nat.eq_of_beq_eq_true h5)
  · intro g a e hg hg4
    unfold zckn at h2
    rw [e] at h2
    dsimp only at h2
    have hb : Nat.beq g 4 = false := by
      cases hz : Nat.beq g 4 with
      | false => rfl
      | true => exact absurd (Nat.eq_of_beq_eq_true hz) hg4
    rw [Nat.ble_eq_true_of_le hg, hb] at h2
    have h2 : zbyteAt mi (pc + 1) (o.1.2 + zlen o.1.1) = true := h2
    unfold zbyteAt at h2
    split at h2
    · rename_i o' ho
      exact ⟨o', ho, Nat.eq_of_beq_eq_true h2⟩
    · cases h2
  · intro t a e
    unfold zckb at h3
    rw [e] at h3
    have h3 : (match zoff o.1.1 with
      | some off => ztoAt mi t o.1.2 off
      | none => false) = true := h3
    split at h3
    · rename_i off ho
      unfold ztoAt at h3
      split at h3
      · rename_i o' ho'
        refine ⟨o', ho', fun off' h' => ?_⟩
        rw [ho] at h'
        cases h'
        exact of_decide_eq_true h3
      · cases h3
    · cases h3
  · intro d ts e dflt lo hi offs e2
    unfold zckb at h3
    rw [e, e2] at h3
    have h3 : (ztoAt mi d o.1.2 dflt && zallT mi o.1.2 ts offs.toList) = true := h3
    rw [Bool.and_eq_true] at h3
    refine ⟨?_, fun j t ht => ?_⟩
    rotate_left
    · obtain ⟨o', off, a1, a2, a3⟩ := zallT_at h3.2 j t ht
      exact ⟨o', off, a1, by rw [← a2, Array.getElem?_toList], a3⟩
    have h5 := h3.1
    unfold ztoAt at h5
    split at h5
    · rename_i o' ho'
      exact ⟨o', ho', of_decide_eq_true h5⟩
    · cases h5
  · intro a e
    unfold zckb at h3
    rw [e] at h3
    exact zrtB_ok h3
  · intro e
    unfold zckn at h2
    rw [e] at h2
    cases h2
noncomputable def zck1 (mi pc : Nat) (o : zOp) : Bool := zckd mi o && zckR mi pc o
