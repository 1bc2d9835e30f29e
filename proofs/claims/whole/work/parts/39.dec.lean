/-! The methods read back: what a method does, as a function of its arguments and the heap; the rules by which such a reading is shown right. -/
abbrev zq : Type := Option (Nat × Nat)
abbrev zRs (τ : Type) : Type := Option ((τ ⊕ Nat) × zH)
def zN0 : Nat := 1000
def zoI (r : Int32 ⊕ Nat) : zO := match r with
  | .inl x => .inl (some (zI x))
  | .inr E => .inr E
def zoA (r : zq ⊕ Nat) : zO := match r with
  | .inl x => .inl (some (zrv x))
  | .inr E => .inr E
def zoU (r : Unit ⊕ Nat) : zO := match r with
  | .inl _ => .inl none
  | .inr E => .inr E
def zoD (r : UInt64 ⊕ Nat) : zO := match r with
  | .inl x => .inl (some (zD x))
  | .inr E => .inr E
def zoF (r : UInt32 ⊕ Nat) : zO := match r with
  | .inl x => .inl (some (zF x))
  | .inr E => .inr E
section ZDEC
variable {α β σ : Type}
def zob (ci : Nat) (q : zq) (f : Nat → Nat → Option α) : Option α := match q with
  | some (k, i) => if (ztg k == 0 && zkc k == ci) = true then f k i else none
  | none => none
def znn (q : zq) (f : Nat → Nat → Option α) : Option α := match q with
  | some (k, i) => f k i
  | none => none
def zar (t : Nat) (q : zq) (x : Int32) (h : zH) (f : Nat → Nat → Nat → Option α) : Option α := match q with
  | some (k, i) => if (ztg k == t) = true then (if x < 0 ∨ zln h k i ≤ x.toNatClampNeg then none else f k i x.toNatClampNeg) else none
  | none => none
def zai (q : zq) (x : Int32) (h : zH) (f : Nat → Nat → Nat → Option α) : Option α := match q with
  | some (k, i) => if (ztg k == 1 || ztg k == 10) = true then (if x < 0 ∨ zln h k i ≤ x.toNatClampNeg then none else f k i x.toNatClampNeg) else none
  | none => none
def zal (q : zq) (f : Nat → Nat → Option α) : Option α := match q with
  | some (k, i) => if (ztg k == 1 || ztg k == 10) = true then f k i else none
  | none => none
def zas (q w : zq) (x : Int32) (h : zH) (f : Nat → Nat → Nat → Nat → Nat → Option α) : Option α := match q, w with
  | some (k, i), some (k2, i2) => if (ztg k == 5 && ztg k2 == 0 && zkc k == zkc k2) = true then (if x < 0 ∨ zln h k i ≤ x.toNatClampNeg then none else f k i k2 i2 x.toNatClampNeg) else none
  | _, _ => none
def zlet (x : σ) (f : σ → Option α) : Option α := f x
def zif (c : Prop) [Decidable c] (f : Option α) : Option α := if c then f else none
def zb (x : zRs α) (f : α → zH → zRs β) : zRs β := match x with
  | none => none
  | some (.inl v, h) => f v h
  | some (.inr E, h) => some (.inr E, h)
def zb2 (x : zRs α) (f : α → zH → zRs β) : zRs β := match x with
  | some (.inl v, h) => f v h
  | _ => none
def zbH (hd : List (Nat × Nat × Nat × Nat)) (pc : Nat) (x : zRs α) (f : α → zH → zRs Int32) : zRs Int32 := match x with
  | none => none
  | some (.inl v, h) => f v h
  | some (.inr E, h) => match zhnd hd pc E with
    | some c => some (.inl (nI c), h)
    | none => none
theorem zob_e {ci : Nat} {q : zq} {f : Nat → Nat → Option α} {r : α} (H : zob ci q f = some r) : ∃ k i, q = some (k, i) ∧ (ztg k == 0 && zkc k == ci) = true ∧ f k i = some r := by
  unfold zob at H
  split at H
  · rename_i k i
    split at H
    · exact ⟨k, i, rfl, by assumption, H⟩
    · cases H
  · cases H
theorem znn_e {q : zq} {f : Nat → Nat → Option α} {r : α} (H : znn q f = some r) : ∃ k i, q = some (k, i) ∧ f k i = some r := by
  unfold znn at H
  split at H
  · exact ⟨_, _, rfl, H⟩
  · cases H
theorem zar_e {t : Nat} {q : zq} {x : Int32} {h : zH} {f : Nat → Nat → Nat → Option α} {r : α} (H : zar t q x h f = some r) : ∃ k i, q = some (k, i) ∧ (ztg k == t) = true ∧ ¬ (x < 0 ∨ zln h k i ≤ x.toNatClampNeg) ∧ f k i x.toNatClampNeg = some r := by
  unfold zar at H
  split at H
  · rename_i k i
    split at H
    · split at H
      · cases H
      · exact ⟨k, i, rfl, by assumption, by assumption, H⟩
    · cases H
  · cases H
theorem zai_e {q : zq} {x : Int32} {h : zH} {f : Nat → Nat → Nat → Option α} {r : α} (H : zai q x h f = some r) : ∃ k i, q = some (k, i) ∧ (ztg k == 1 || ztg k == 10) = true ∧ ¬ (x < 0 ∨ zln h k i ≤ x.toNatClampNeg) ∧ f k i x.toNatClampNeg = some r := by
  unfold zai at H
  split at H
  · rename_i k i
    split at H
    · split at H
      · cases H
      · exact ⟨k, i, rfl, by assumption, by assumption, H⟩
    · cases H
  · cases H
theorem zal_e {q : zq} {f : Nat → Nat → Option α} {r : α} (H : zal q f = some r) : ∃ k i, q = some (k, i) ∧ (ztg k == 1 || ztg k == 10) = true ∧ f k i = some r := by
  unfold zal at H
  split at H
  · rename_i k i
    split at H
    · exact ⟨k, i, rfl, by assumption, H⟩
    · cases H
  · cases H
theorem zas_e {q w : zq} {x : Int32} {h : zH} {f : Nat → Nat → Nat → Nat → Nat → Option α} {r : α} (H : zas q w x h f = some r) : ∃ k i k2 i2, q = some (k, i) ∧ w = some (k2, i2) ∧ (ztg k == 5 && ztg k2 == 0 && zkc k == zkc k2) = true ∧ ¬ (x < 0 ∨ zln h k i ≤ x.toNatClampNeg) ∧ f k i k2 i2 x.toNatClampNeg = some r := by
  unfold zas at H
  split at H
  · rename_i k i k2 i2
    split at H
    · split at H
      · cases H
      · exact ⟨k, i, k2, i2, rfl, rfl, by assumption, by assumption, H⟩
    · cases H
  · cases H
theorem zlet_e {x : σ} {f : σ → Option α} {r : α} (H : zlet x f = some r) : ∃ y, y = x ∧ f y = some r := ⟨x, rfl, H⟩
theorem zif_e {c : Prop} [Decidable c] {f : Option α} {r : α} (H : zif c f = some r) : c ∧ f = some r := by
  unfold zif at H
  split at H
  · exact ⟨by assumption, H⟩
  · cases H
theorem zite_e {c : Prop} [Decidable c] {f g : Option α} {r : α} (H : (if c then f else g) = some r) : (c ∧ f = some r) ∨ (¬ c ∧ g = some r) := by
  split at H
  · exact Or.inl ⟨by assumption, H⟩
  · exact Or.inr ⟨by assumption, H⟩
theorem zb_e {x : zRs α} {f : α → zH → zRs β} {r : (β ⊕ Nat) × zH} (H : zb x f = some r) : (∃ v h, x = some (.inl v, h) ∧ f v h = some r) ∨ ∃ E h, x = some (.inr E, h) ∧ r = (.inr E, h) := by
  unfold zb at H
  split at H
  · cases H
  · exact Or.inl ⟨_, _, rfl, H⟩
  · cases H
    exact Or.inr ⟨_, _, rfl, rfl⟩
theorem zb2_e {x : zRs α} {f : α → zH → zRs β} {r : (β ⊕ Nat) × zH} (H : zb2 x f = some r) : ∃ v h, x = some (.inl v, h) ∧ f v h = some r := by
  unfold zb2 at H
  split at H
  · exact ⟨_, _, rfl, H⟩
  · cases H
theorem zbH_e {hd : List (Nat × Nat × Nat × Nat)} {pc : Nat} {x : zRs α} {f : α → zH → zRs Int32} {r : (Int32 ⊕ Nat) × zH} (H : zbH hd pc x f = some r) : (∃ v h, x = some (.inl v, h) ∧ f v h = some r) ∨ ∃ E h c, x = some (.inr E, h) ∧ zhnd hd pc E = some c ∧ r = (.inl (nI c), h) := by
  unfold zbH at H
  split at H
  · cases H
  · exact Or.inl ⟨_, _, rfl, H⟩
  · split at H
    · cases H
      exact Or.inr ⟨_, _, _, rfl, by assumption, rfl⟩
    · cases H
end ZDEC
def zAt (mi pc : Nat) (L : zLs) (st : List zV) (h : zH) (o : zO) (h' : zH) : Prop := ∃ n, zrun zPr n mi pc L st h = some (o, h')
def zgr (l : List Nat) : Bool := match l with
  | [] => false
  | g :: _ => Nat.blt g 9
theorem zcat_rv (q : zq) : zcat (zrv q) = 1 := by cases q <;> rfl
theorem zrun_S {P : zP} {n mi pc : Nat} {L : zLs} {st : List zV} {h : zH} {o : zOp} {c : zC} (hf : P.1 mi pc = some o) (hg : zgr o.2.1 = true) (hs : zstp o pc (ztr o.2.2 L) st h = some c) : zrun P (n + 1) mi pc L st h = zrun P n mi c.1 c.2.1 c.2.2.1 c.2.2.2 := by
  obtain ⟨⟨i, b⟩, ⟨a, ks⟩⟩ := o
  rw [zrun, hf]
  dsimp only at hg hs ⊢
  unfold zgr at hg
  split at hg
  · cases hg
  · rename_i g a
    have hg := Nat.lt_of_lt_of_le (Nat.blt_eq.mp hg) (Nat.le_refl _)
    split
    · rename_i e; cases e; omega
    · rename_i e; cases e; omega
    · rename_i e; cases e; omega
    · rw [hs]
theorem zrun_up1 {P : zP} : ∀ (n : Nat) (mi pc : Nat) (L : zLs) (st : List zV) (h : zH) (r : zO × zH), zrun P n mi pc L st h = some r → zrun P (n + 1) mi pc L st h = some r := by
  intro n
  induction n with
  | zero => intro mi pc L st h r hs; cases hs
  | succ n ih =>
    intro mi pc L st h r hs
    rw [zrun] at hs ⊢
    cases hP : P.1 mi pc with
    | none => rw [hP] at hs; cases hs
    | some o =>
      rw [hP] at hs
      dsimp only at hs ⊢
      split at hs
      · rename_i mj na ci kd a e
        cases hz : zarg na st with
        | none => rw [hz] at hs; cases hs
        | some as =>
          rw [hz] at hs
          dsimp only at hs ⊢
          rw [cond_eq_ite] at hs ⊢
          split at hs
          · rename_i hc
            rw [if_pos hc]
            cases hr : zrun P n mj 0 (zpad (P.2.1 mj).1 (zil as.1)) [] h with
            | none => rw [hr] at hs; cases hs
            | some c =>
              rw [hr] at hs
              rw [ih _ _ _ _ _ _ hr]
              obtain ⟨o1, h1⟩ := c
              rcases o1 with (_ | v) | E
              · exact ih _ _ _ _ _ _ hs
              · exact ih _ _ _ _ _ _ hs
              · exact hs
          · cases hs
      · exact hs
      · exact hs
      · cases hz : zstp o pc (ztr o.2.2 L) st h with
        | none => rw [hz] at hs; cases hs
        | some c =>
          rw [hz] at hs
          exact ih _ _ _ _ _ _ hs
theorem zrun_up {P : zP} {n m mi pc : Nat} {L : zLs} {st : List zV} {h : zH} {r : zO × zH} (hr : zrun P n mi pc L st h = some r) (hm : n ≤ m) : zrun P m mi pc L st h = some r := by
  induction hm with
  | refl => exact hr
  | step _ ih => exact zrun_up1 _ _ _ _ _ _ _ ih
