/-! The methods read back: what a method does, as a function of its arguments and the heap; the rules by which such a reading is shown right. -/
abbrev zq : Type := Option (Nat × Nat)
abbrev zRs (τ : Type) : Type := Option ((τ ⊕ Nat) × zH)
def zN0 : Nat := 1000
def zoI (r : Int32 ⊕ Nat) : zO := match r with
  | .inl x => .inl (some (zI x))
  | .inr E => .inr E
def zoA (r : zq ⊕ Nat) : zO := match r with
  | .inl x => .inl (some (zrv x))
  | .inr E => .inr E
def zoU (r : Unit ⊕ Nat) : zO := match r with
  | .inl _ => .inl none
  | .inr E => .inr E
def zoD (r : UInt64 ⊕ Nat) : zO := match r with
  | .inl x => .inl (some (zD x))
  | .inr E => .inr E
def zoF (r : UInt32 ⊕ Nat) : zO := match r with
  | .inl x => .inl (some (zF x))
  | .inr E => .inr E
section ZDEC
variable {α β σ : Type}
def zob (ci : Nat) (q : zq) (f : Nat → Nat → Option α) : Option α := match q with
  | some (k, i) => if (ztg k == 0 && zkc k == ci) = true then f k i else none
  | none => none
def znn (q : zq) (f : Nat → Nat → Option α) : Option α := match q with
  | some (k, i) => f k i
  | none => none
def zar (t : Nat) (q : zq) (x : Int32) (h : zH) (f : Nat → Nat → Nat → Option α) : Option α := match q with
  | some (k, i) => if (ztg k == t) = true then (if x < 0 ∨ zln h k i ≤ x.toNatClampNeg then none else f k i x.toNatClampNeg) else none
  | none => none
def zai (q : zq) (x : Int32) (h : zH) (f : Nat → Nat → Nat → Option α) : Option α := match q with
  | some (k, i) => if (ztg k == 1 || ztg k == 10) = true then (if x < 0 ∨ zln h k i ≤ x.toNatClampNeg then none else f k i x.toNatClampNeg) else none
  | none => none
def zal (q : zq) (f : Nat → Nat → Option α) : Option α := match q with
  | some (k, i) => if (ztg k == 1 || ztg k == 10) = true then f k i else none
  | none => none
def zas (q w : zq) (x : Int32) (h : zH) (f : Nat → Nat → Nat → Nat → Nat → Option α) : Option α := match q, w with
  | some (k, i), some (k2, i2) => if (ztg k == 5 && ztg k2 == 0 && zkc k == zkc k2) = true then (if x < 0 ∨ zln h k i ≤ x.toNatClampNeg then none else f k i k2 i2 x.toNatClampNeg) else none
  | _, _ => none
/-- an array's place is read -/
def zri (q : zq) (x : Int32) (h : zH) (f : Int32 → Option α) : Option α := zai q x h fun k i j => f (zi h k i j)
def zrb (q : zq) (x : Int32) (h : zH) (f : Int32 → Option α) : Option α := zar 2 q x h fun k i j => f (zi h k i j)
def zrj (q : zq) (x : Int32) (h : zH) (f : Int64 → Option α) : Option α := zar 3 q x h fun k i j => f (zl h k i j)
def zrd (q : zq) (x : Int32) (h : zH) (f : UInt64 → Option α) : Option α := zar 4 q x h fun k i j => f (zd h k i j)
def zra (q : zq) (x : Int32) (h : zH) (f : zq → Option α) : Option α := zar 5 q x h fun k i j => f (zr h k i j)
/-- a list's size; an element -/
def zlz (q : zq) (h : zH) (f : Int32 → Option α) : Option α := match q with
  | some (k, i) => if (ztg k == 9) = true then (if zi h k i 1 = 1 then f (nI (zln h k i)) else none) else none
  | none => none
def zlg (q : zq) (x : Int32) (h : zH) (f : zq → Option α) : Option α := match q with
  | some (k, i) => if (ztg k == 9) = true then (if zi h k i 1 = 1 then (if x < 0 ∨ zln h k i ≤ x.toNatClampNeg ∨ 33 < zln h k i then none else f (zr h k i x.toNatClampNeg)) else none) else none
  | none => none
def zlet (x : σ) (f : σ → Option α) : Option α := f x
def zif (c : Prop) [Decidable c] (f : Option α) : Option α := if c then f else none
def zb (x : zRs α) (f : α → zH → zRs β) : zRs β := match x with
  | none => none
  | some (.inl v, h) => f v h
  | some (.inr E, h) => some (.inr E, h)
def zb2 (x : zRs α) (f : α → zH → zRs β) : zRs β := match x with
  | some (.inl v, h) => f v h
  | _ => none
def zbH (hd : List (Nat × Nat × Nat × Nat)) (pc : Nat) (x : zRs α) (f : α → zH → zRs Int32) : zRs Int32 := match x with
  | none => none
  | some (.inl v, h) => f v h
  | some (.inr E, h) => match zhnd hd pc E with
    | some c => some (.inl (nI c), h)
    | none => none
theorem zob_e {ci : Nat} {q : zq} {f : Nat → Nat → Option α} {r : α} (H : zob ci q f = some r) : ∃ k i, q = some (k, i) ∧ (ztg k == 0 && zkc k == ci) = true ∧ f k i = some r := by
  unfold zob at H
  split at H
  · rename_i k i
    split at H
    · exact ⟨k, i, rfl, by assumption, H⟩
    · cases H
  · cases H
theorem znn_e {q : zq} {f : Nat → Nat → Option α} {r : α} (H : znn q f = some r) : ∃ k i, q = some (k, i) ∧ f k i = some r := by
  unfold znn at H
  split at H
  · exact ⟨_, _, rfl, H⟩
  · cases H
theorem zar_e {t : Nat} {q : zq} {x : Int32} {h : zH} {f : Nat → Nat → Nat → Option α} {r : α} (H : zar t q x h f = some r) : ∃ k i j, q = some (k, i) ∧ (ztg k == t) = true ∧ ¬ (x < 0 ∨ zln h k i ≤ j) ∧ j = x.toNatClampNeg ∧ f k i j = some r := by
  unfold zar at H
  split at H
  · rename_i k i
    split at H
    · split at H
      · cases H
      · exact ⟨k, i, _, rfl, by assumption, by assumption, rfl, H⟩
    · cases H
  · cases H
theorem zai_e {q : zq} {x : Int32} {h : zH} {f : Nat → Nat → Nat → Option α} {r : α} (H : zai q x h f = some r) : ∃ k i j, q = some (k, i) ∧ (ztg k == 1 || ztg k == 10) = true ∧ ¬ (x < 0 ∨ zln h k i ≤ j) ∧ j = x.toNatClampNeg ∧ f k i j = some r := by
  unfold zai at H
  split at H
  · rename_i k i
    split at H
    · split at H
      · cases H
      · exact ⟨k, i, _, rfl, by assumption, by assumption, rfl, H⟩
    · cases H
  · cases H
theorem zal_e {q : zq} {f : Nat → Nat → Option α} {r : α} (H : zal q f = some r) : ∃ k i, q = some (k, i) ∧ (ztg k == 1 || ztg k == 10) = true ∧ f k i = some r := by
  unfold zal at H
  split at H
  · rename_i k i
    split at H
    · exact ⟨k, i, rfl, by assumption, H⟩
    · cases H
  · cases H
theorem zas_e {q w : zq} {x : Int32} {h : zH} {f : Nat → Nat → Nat → Nat → Nat → Option α} {r : α} (H : zas q w x h f = some r) : ∃ k i k2 i2 j, q = some (k, i) ∧ w = some (k2, i2) ∧ (ztg k == 5 && ztg k2 == 0 && zkc k == zkc k2) = true ∧ ¬ (x < 0 ∨ zln h k i ≤ j) ∧ j = x.toNatClampNeg ∧ f k i k2 i2 j = some r := by
  unfold zas at H
  split at H
  · rename_i k i k2 i2
    split at H
    · split at H
      · cases H
      · exact ⟨k, i, k2, i2, _, rfl, rfl, by assumption, by assumption, rfl, H⟩
    · cases H
  · cases H
theorem zri_e {q : zq} {x : Int32} {h : zH} {f : Int32 → Option α} {r : α} (H : zri q x h f = some r) : ∃ k i j v, q = some (k, i) ∧ (ztg k == 1 || ztg k == 10) = true ∧ ¬ (x < 0 ∨ zln h k i ≤ j) ∧ j = x.toNatClampNeg ∧ v = zi h k i j ∧ f v = some r := by
  obtain ⟨k, i, j, a, b, c, d, e⟩ := zai_e H
  exact ⟨k, i, j, _, a, b, c, d, rfl, e⟩
theorem zrb_e {q : zq} {x : Int32} {h : zH} {f : Int32 → Option α} {r : α} (H : zrb q x h f = some r) : ∃ k i j v, q = some (k, i) ∧ (ztg k == 2) = true ∧ ¬ (x < 0 ∨ zln h k i ≤ j) ∧ j = x.toNatClampNeg ∧ v = zi h k i j ∧ f v = some r := by
  obtain ⟨k, i, j, a, b, c, d, e⟩ := zar_e H
  exact ⟨k, i, j, _, a, b, c, d, rfl, e⟩
theorem zrj_e {q : zq} {x : Int32} {h : zH} {f : Int64 → Option α} {r : α} (H : zrj q x h f = some r) : ∃ k i j v, q = some (k, i) ∧ (ztg k == 3) = true ∧ ¬ (x < 0 ∨ zln h k i ≤ j) ∧ j = x.toNatClampNeg ∧ v = zl h k i j ∧ f v = some r := by
  obtain ⟨k, i, j, a, b, c, d, e⟩ := zar_e H
  exact ⟨k, i, j, _, a, b, c, d, rfl, e⟩
theorem zrd_e {q : zq} {x : Int32} {h : zH} {f : UInt64 → Option α} {r : α} (H : zrd q x h f = some r) : ∃ k i j v, q = some (k, i) ∧ (ztg k == 4) = true ∧ ¬ (x < 0 ∨ zln h k i ≤ j) ∧ j = x.toNatClampNeg ∧ v = zd h k i j ∧ f v = some r := by
  obtain ⟨k, i, j, a, b, c, d, e⟩ := zar_e H
  exact ⟨k, i, j, _, a, b, c, d, rfl, e⟩
theorem zra_e {q : zq} {x : Int32} {h : zH} {f : zq → Option α} {r : α} (H : zra q x h f = some r) : ∃ k i j v, q = some (k, i) ∧ (ztg k == 5) = true ∧ ¬ (x < 0 ∨ zln h k i ≤ j) ∧ j = x.toNatClampNeg ∧ v = zr h k i j ∧ f v = some r := by
  obtain ⟨k, i, j, a, b, c, d, e⟩ := zar_e H
  exact ⟨k, i, j, _, a, b, c, d, rfl, e⟩
theorem zlz_e {q : zq} {h : zH} {f : Int32 → Option α} {r : α} (H : zlz q h f = some r) : ∃ k i v, q = some (k, i) ∧ (ztg k == 9) = true ∧ zi h k i 1 = 1 ∧ v = nI (zln h k i) ∧ f v = some r := by
  unfold zlz at H
  split at H
  · rename_i k i
    split at H
    · split at H
      · exact ⟨k, i, _, rfl, by assumption, by assumption, rfl, H⟩
      · cases H
    · cases H
  · cases H
theorem zlg_e {q : zq} {x : Int32} {h : zH} {f : zq → Option α} {r : α} (H : zlg q x h f = some r) : ∃ k i v, q = some (k, i) ∧ (ztg k == 9) = true ∧ zi h k i 1 = 1 ∧ ¬ (x < 0 ∨ zln h k i ≤ x.toNatClampNeg ∨ 33 < zln h k i) ∧ v = zr h k i x.toNatClampNeg ∧ f v = some r := by
  unfold zlg at H
  split at H
  · rename_i k i
    split at H
    · split at H
      · split at H
        · cases H
        · exact ⟨k, i, _, rfl, by assumption, by assumption, by assumption, rfl, H⟩
      · cases H
    · cases H
  · cases H
theorem zlet_e {x : σ} {f : σ → Option α} {r : α} (H : zlet x f = some r) : ∃ y, y = x ∧ f y = some r := ⟨x, rfl, H⟩
theorem zif_e {c : Prop} [Decidable c] {f : Option α} {r : α} (H : zif c f = some r) : c ∧ f = some r := by
  unfold zif at H
  split at H
  · exact ⟨by assumption, H⟩
  · cases H
theorem zite_e {c : Prop} [Decidable c] {f g : Option α} {r : α} (H : (if c then f else g) = some r) : (c ∧ f = some r) ∨ (¬ c ∧ g = some r) := by
  split at H
  · exact Or.inl ⟨by assumption, H⟩
  · exact Or.inr ⟨by assumption, H⟩
theorem zb_e {x : zRs α} {f : α → zH → zRs β} {r : (β ⊕ Nat) × zH} (H : zb x f = some r) : (∃ v h, x = some (.inl v, h) ∧ f v h = some r) ∨ ∃ E h, x = some (.inr E, h) ∧ r = (.inr E, h) := by
  unfold zb at H
  split at H
  · cases H
  · exact Or.inl ⟨_, _, rfl, H⟩
  · cases H
    exact Or.inr ⟨_, _, rfl, rfl⟩
theorem zb2_e {x : zRs α} {f : α → zH → zRs β} {r : (β ⊕ Nat) × zH} (H : zb2 x f = some r) : ∃ v h, x = some (.inl v, h) ∧ f v h = some r := by
  unfold zb2 at H
  split at H
  · exact ⟨_, _, rfl, H⟩
  · cases H
theorem zbH_e {hd : List (Nat × Nat × Nat × Nat)} {pc : Nat} {x : zRs α} {f : α → zH → zRs Int32} {r : (Int32 ⊕ Nat) × zH} (H : zbH hd pc x f = some r) : (∃ v h, x = some (.inl v, h) ∧ f v h = some r) ∨ ∃ E h c, x = some (.inr E, h) ∧ zhnd hd pc E = some c ∧ r = (.inl (nI c), h) := by
  unfold zbH at H
  split at H
  · cases H
  · exact Or.inl ⟨_, _, rfl, H⟩
  · split at H
    · cases H
      exact Or.inr ⟨_, _, _, rfl, by assumption, rfl⟩
    · cases H
end ZDEC
def zAt (mi pc : Nat) (L : zLs) (st : List zV) (h : zH) (o : zO) (h' : zH) : Prop := ∃ n, zrun zPr n mi pc L st h = some (o, h')
def zgr (l : List Nat) : Bool := match l with
  | [] => false
  | g :: _ => Nat.blt g 9
theorem zcat_rv (q : zq) : zcat (zrv q) = 1 := by cases q <;> rfl
theorem zrun_S {P : zP} {n mi pc : Nat} {L : zLs} {st : List zV} {h : zH} {o : zOp} {c : zC} (hf : P.1 mi pc = some o) (hg : zgr o.2.1 = true) (hs : zstp o pc (ztr o.2.2 L) st h = some c) : zrun P (n + 1) mi pc L st h = zrun P n mi c.1 c.2.1 c.2.2.1 c.2.2.2 := by
  obtain ⟨⟨i, b⟩, ⟨a, ks⟩⟩ := o
  rw [zrun, hf]
  dsimp only at hg hs ⊢
  unfold zgr at hg
  split at hg
  · cases hg
  · rename_i g a
    have hg := Nat.lt_of_lt_of_le (Nat.blt_eq.mp hg) (Nat.le_refl _)
    split
    · rename_i e; cases e; omega
    · rename_i e; cases e; omega
    · rename_i e; cases e; omega
    · rw [hs]
theorem zrun_up1 {P : zP} : ∀ (n : Nat) (mi pc : Nat) (L : zLs) (st : List zV) (h : zH) (r : zO × zH), zrun P n mi pc L st h = some r → zrun P (n + 1) mi pc L st h = some r := by
  intro n
  induction n with
  | zero => intro mi pc L st h r hs; cases hs
  | succ n ih =>
    intro mi pc L st h r hs
    rw [zrun] at hs ⊢
    cases hP : P.1 mi pc with
    | none => rw [hP] at hs; cases hs
    | some o =>
      rw [hP] at hs
      dsimp only at hs ⊢
      split at hs
      · rename_i mj na ci kd a e
        cases hz : zarg na st with
        | none => rw [hz] at hs; cases hs
        | some as =>
          rw [hz] at hs
          dsimp only at hs ⊢
          rw [cond_eq_ite] at hs ⊢
          split at hs
          · rename_i hc
            rw [if_pos hc]
            cases hr : zrun P n mj 0 (zpad (P.2.1 mj).1 (zil as.1)) [] h with
            | none => rw [hr] at hs; cases hs
            | some c =>
              rw [hr] at hs
              rw [ih _ _ _ _ _ _ hr]
              obtain ⟨o1, h1⟩ := c
              rcases o1 with (_ | v) | E
              · exact ih _ _ _ _ _ _ hs
              · exact ih _ _ _ _ _ _ hs
              · exact hs
          · cases hs
      · exact hs
      · exact hs
      · cases hz : zstp o pc (ztr o.2.2 L) st h with
        | none => rw [hz] at hs; cases hs
        | some c =>
          rw [hz] at hs
          exact ih _ _ _ _ _ _ hs
theorem zrun_up {P : zP} {n m mi pc : Nat} {L : zLs} {st : List zV} {h : zH} {r : zO × zH} (hr : zrun P n mi pc L st h = some r) (hm : n ≤ m) : zrun P m mi pc L st h = some r := by
  induction hm with
  | refl => exact hr
  | step _ ih => exact zrun_up1 _ _ _ _ _ _ _ ih
section ZRULE
variable {mi pc : Nat} {L L' : zLs} {st : List zV} {h h1 h' : zH} {o : zO} {b : Nat} {ks : List Bool} {a : List Nat}
theorem zA_step {op : zOp} {c : zC} (hf : zfetch mi pc = some op) (hg : zgr op.2.1 = true) (hs : zstp op pc (ztr op.2.2 L) st h = some c) (H : zAt mi c.1 c.2.1 c.2.2.1 c.2.2.2 o h') : zAt mi pc L st h o h' := by
  obtain ⟨n, H⟩ := H
  exact ⟨n + 1, by rw [zrun_S (P := zPr) (o := op) hf hg hs]; exact H⟩
/-- what is dead at a place counts nothing -/
theorem zA_tr {op : zOp} (hf : zfetch mi pc = some op) (hL : ztr op.2.2 L' = ztr op.2.2 L) (H : zAt mi pc L st h o h') : zAt mi pc L' st h o h' := by
  obtain ⟨n, H⟩ := H
  cases n with
  | zero => cases H
  | succ n =>
    refine ⟨n + 1, ?_⟩
    rw [zrun] at H ⊢
    have e : zPr.1 mi pc = some op := hf
    rw [e] at H ⊢
    dsimp only at H ⊢
    rw [hL]
    exact H
/-- a step of the group g, whose answer is known -/
theorem zA_g {ins : Instr} {g : Nat} {c : zC} (hf : zfetch mi pc = some ((ins, b), (g :: a, ks))) (hg : Nat.blt g 9 = true) (hL : ztr ks L = L) (hs : zstp ((ins, b), (g :: a, ks)) pc L st h = some c) (H : zAt mi c.1 c.2.1 c.2.2.1 c.2.2.2 o h') : zAt mi pc L st h o h' :=
  zA_step hf hg (by rw [show (((ins, b), (g :: a, ks)) : zOp).2.2 = ks from rfl, hL]; exact hs) H
/-- a constant, a copy, arithmetic, a comparison: the stack alone changes -/
theorem zA_push {ins : Instr} {v : zV} (hf : zfetch mi pc = some ((ins, b), (0 :: a, ks))) (hL : ztr ks L = L) (hs : ∀ (pc : Nat) (L : zLs) (st : List zV) (h : zH), zsLoc ins a pc L st h = some (pc + 1, L, v :: st, h)) (H : zAt mi (pc + 1) L (v :: st) h o h') : zAt mi pc L st h o h' :=
  zA_g (c := (pc + 1, L, v :: st, h)) hf rfl hL (hs pc L st h) H
theorem zA_st {ins : Instr} {g : Nat} {st' : List zV} (hf : zfetch mi pc = some ((ins, b), (g :: a, ks))) (hg : Nat.blt g 9 = true) (hL : ztr ks L = L) (hs : zstp ((ins, b), (g :: a, ks)) pc L st h = some (pc + 1, L, st', h)) (H : zAt mi (pc + 1) L st' h o h') : zAt mi pc L st h o h' :=
  zA_g (c := (pc + 1, L, st', h)) hf hg hL hs H
theorem zA_ld {i : Nat} {x : Int32} (hf : zfetch mi pc = some ((.iload i, b), (0 :: a, ks))) (hL : ztr ks L = L) (hv : zget L i = some (zI x)) (H : zAt mi (pc + 1) L (zI x :: st) h o h') : zAt mi pc L st h o h' :=
  zA_g (c := (pc + 1, L, zI x :: st, h)) hf rfl hL (by show (zget L i).bind _ = _; rw [hv]; rfl) H
theorem zA_ldn {i : Fin 4} {x : Int32} (hf : zfetch mi pc = some ((.iload_n i, b), (0 :: a, ks))) (hL : ztr ks L = L) (hv : zget L i.val = some (zI x)) (H : zAt mi (pc + 1) L (zI x :: st) h o h') : zAt mi pc L st h o h' :=
  zA_g (c := (pc + 1, L, zI x :: st, h)) hf rfl hL (by show (zget L i.val).bind _ = _; rw [hv]; rfl) H
theorem zA_fld {i : Nat} {x : UInt32} (hf : zfetch mi pc = some ((.fload i, b), (0 :: a, ks))) (hL : ztr ks L = L) (hv : zget L i = some (zF x)) (H : zAt mi (pc + 1) L (zF x :: st) h o h') : zAt mi pc L st h o h' :=
  zA_g (c := (pc + 1, L, zF x :: st, h)) hf rfl hL (by show (zget L i).bind _ = _; rw [hv]; rfl) H
theorem zA_dld {i : Nat} {x : UInt64} (hf : zfetch mi pc = some ((.dload i, b), (0 :: a, ks))) (hL : ztr ks L = L) (hv : zget L i = some (zD x)) (H : zAt mi (pc + 1) L (zD x :: st) h o h') : zAt mi pc L st h o h' :=
  zA_g (c := (pc + 1, L, zD x :: st, h)) hf rfl hL (by show (zget L i).bind _ = _; rw [hv]; rfl) H
theorem zA_dldn {i : Fin 4} {x : UInt64} (hf : zfetch mi pc = some ((.dload_n i, b), (0 :: a, ks))) (hL : ztr ks L = L) (hv : zget L i.val = some (zD x)) (H : zAt mi (pc + 1) L (zD x :: st) h o h') : zAt mi pc L st h o h' :=
  zA_g (c := (pc + 1, L, zD x :: st, h)) hf rfl hL (by show (zget L i.val).bind _ = _; rw [hv]; rfl) H
theorem zA_ald {i : Nat} {q : zq} (hf : zfetch mi pc = some ((.aload i, b), (0 :: a, ks))) (hL : ztr ks L = L) (hv : zget L i = some (zrv q)) (H : zAt mi (pc + 1) L (zrv q :: st) h o h') : zAt mi pc L st h o h' :=
  zA_g (c := (pc + 1, L, zrv q :: st, h)) hf rfl hL (by show (zget L i).bind _ = _; rw [hv]; cases q <;> rfl) H
theorem zA_aldn {i : Fin 4} {q : zq} (hf : zfetch mi pc = some ((.aload_n i, b), (0 :: a, ks))) (hL : ztr ks L = L) (hv : zget L i.val = some (zrv q)) (H : zAt mi (pc + 1) L (zrv q :: st) h o h') : zAt mi pc L st h o h' :=
  zA_g (c := (pc + 1, L, zrv q :: st, h)) hf rfl hL (by show (zget L i.val).bind _ = _; rw [hv]; cases q <;> rfl) H
-- storing: the place before isn't the first of two
def zpc (L : zLs) (i : Nat) : Prop := zpre L i = L
theorem zpc0 {L : zLs} : zpc L 0 := rfl
theorem zpcN {L : zLs} {i : Nat} (e : zget L i = none) : zpc L (i + 1) := by
  show (match zget L i with | some v => bif zcat v == 2 then L.set i none else L | none => L) = L
  rw [e]
theorem zpcV {L : zLs} {i : Nat} {v : zV} (e : zget L i = some v) (hc : zcat v = 1) : zpc L (i + 1) := by
  show (match zget L i with | some v => bif zcat v == 2 then L.set i none else L | none => L) = L
  rw [e]
  dsimp only
  rw [hc]
  rfl
theorem zset1 {L L' : zLs} {i : Nat} {v : zV} (hc : zcat v = 1) (hl : L.set i (some v) = L') (hp : zpc L' i) : zset L i v = L' := by
  unfold zset
  rw [hc]
  show zpre (L.set i (some v)) i = L'
  rw [hl]
  exact hp
theorem zset2 {L L1 L' : zLs} {i : Nat} {v : zV} (hc : zcat v = 2) (hl : L.set i (some v) = L1) (hp : zpc L1 i) (hl2 : L1.set (i + 1) none = L') : zset L i v = L' := by
  unfold zset
  rw [hc]
  show (zpre (L.set i (some v)) i).set (i + 1) none = L'
  rw [hl, show zpre L1 i = L1 from hp]
  exact hl2
theorem zA_ist {i : Nat} {x : Int32} (hf : zfetch mi pc = some ((.istore i, b), (0 :: a, ks))) (hL : ztr ks L = L) (hz : zset L i (zI x) = L') (H : zAt mi (pc + 1) L' st h o h') : zAt mi pc L (zI x :: st) h o h' :=
  zA_g (c := (pc + 1, L', st, h)) hf rfl hL (by rw [← hz]; rfl) H
theorem zA_istn {i : Fin 4} {x : Int32} (hf : zfetch mi pc = some ((.istore_n i, b), (0 :: a, ks))) (hL : ztr ks L = L) (hz : zset L i.val (zI x) = L') (H : zAt mi (pc + 1) L' st h o h') : zAt mi pc L (zI x :: st) h o h' :=
  zA_g (c := (pc + 1, L', st, h)) hf rfl hL (by rw [← hz]; rfl) H
theorem zA_fst {i : Nat} {x : UInt32} (hf : zfetch mi pc = some ((.fstore i, b), (0 :: a, ks))) (hL : ztr ks L = L) (hz : zset L i (zF x) = L') (H : zAt mi (pc + 1) L' st h o h') : zAt mi pc L (zF x :: st) h o h' :=
  zA_g (c := (pc + 1, L', st, h)) hf rfl hL (by rw [← hz]; rfl) H
theorem zA_dst {i : Nat} {x : UInt64} (hf : zfetch mi pc = some ((.dstore i, b), (0 :: a, ks))) (hL : ztr ks L = L) (hz : zset L i (zD x) = L') (H : zAt mi (pc + 1) L' st h o h') : zAt mi pc L (zD x :: st) h o h' :=
  zA_g (c := (pc + 1, L', st, h)) hf rfl hL (by rw [← hz]; rfl) H
theorem zA_dstn {i : Fin 4} {x : UInt64} (hf : zfetch mi pc = some ((.dstore_n i, b), (0 :: a, ks))) (hL : ztr ks L = L) (hz : zset L i.val (zD x) = L') (H : zAt mi (pc + 1) L' st h o h') : zAt mi pc L (zD x :: st) h o h' :=
  zA_g (c := (pc + 1, L', st, h)) hf rfl hL (by rw [← hz]; rfl) H
theorem zA_ast {i : Nat} {q : zq} (hf : zfetch mi pc = some ((.astore i, b), (0 :: a, ks))) (hL : ztr ks L = L) (hz : zset L i (zrv q) = L') (H : zAt mi (pc + 1) L' st h o h') : zAt mi pc L (zrv q :: st) h o h' :=
  zA_g (c := (pc + 1, L', st, h)) hf rfl hL (by rw [← hz]; cases q <;> rfl) H
theorem zA_astn {i : Fin 4} {q : zq} (hf : zfetch mi pc = some ((.astore_n i, b), (0 :: a, ks))) (hL : ztr ks L = L) (hz : zset L i.val (zrv q) = L') (H : zAt mi (pc + 1) L' st h o h') : zAt mi pc L (zrv q :: st) h o h' :=
  zA_g (c := (pc + 1, L', st, h)) hf rfl hL (by rw [← hz]; cases q <;> rfl) H
theorem zA_inc {i : Nat} {n : Int} {x y : Int32} (hf : zfetch mi pc = some ((.iinc i n, b), (0 :: a, ks))) (hL : ztr ks L = L) (hv : zget L i = some (zI x)) (hy : y = x + Int32.ofInt n) (hz : zset L i (zI y) = L') (H : zAt mi (pc + 1) L' st h o h') : zAt mi pc L st h o h' :=
  zA_g (c := (pc + 1, L', st, h)) hf rfl hL (by show (zget L i).bind _ = _; rw [hv, ← hz, hy]; rfl) H
theorem zA_dup {v : zV} (hf : zfetch mi pc = some ((.dup, b), (0 :: a, ks))) (hL : ztr ks L = L) (hc : zcat v = 1) (H : zAt mi (pc + 1) L (v :: v :: st) h o h') : zAt mi pc L (v :: st) h o h' :=
  zA_g (c := (pc + 1, L, v :: v :: st, h)) hf rfl hL (by show (bif zcat v == 1 then _ else _) = _; rw [hc]; rfl) H
theorem zA_pop {v : zV} (hf : zfetch mi pc = some ((.pop, b), (0 :: a, ks))) (hL : ztr ks L = L) (hc : zcat v = 1) (H : zAt mi (pc + 1) L st h o h') : zAt mi pc L (v :: st) h o h' :=
  zA_g (c := (pc + 1, L, st, h)) hf rfl hL (by show (bif zcat v == 1 then _ else _) = _; rw [hc]; rfl) H
theorem zA_dup2 {v w : zV} (hf : zfetch mi pc = some ((.dup2, b), (0 :: a, ks))) (hL : ztr ks L = L) (hc : zcat v = 1) (hd : zcat w = 1) (H : zAt mi (pc + 1) L (v :: w :: v :: w :: st) h o h') : zAt mi pc L (v :: w :: st) h o h' :=
  zA_g (c := (pc + 1, L, v :: w :: v :: w :: st, h)) hf rfl hL (by show (bif zcat v == 1 && zcat w == 1 then _ else _) = _; rw [hc, hd]; rfl) H
-- numbers with a condition
theorem zA_div {x y : Int32} (hf : zfetch mi pc = some ((.idiv, b), (1 :: a, ks))) (hL : ztr ks L = L) (hc : y ≠ 0) (H : zAt mi (pc + 1) L (zI (x / y) :: st) h o h') : zAt mi pc L (zI y :: zI x :: st) h o h' :=
  zA_g (c := (pc + 1, L, zI (x / y) :: st, h)) hf rfl hL (if_neg hc) H
theorem zA_rem {x y : Int32} (hf : zfetch mi pc = some ((.irem, b), (1 :: a, ks))) (hL : ztr ks L = L) (hc : y ≠ 0) (H : zAt mi (pc + 1) L (zI (x - x / y * y) :: st) h o h') : zAt mi pc L (zI y :: zI x :: st) h o h' :=
  zA_g (c := (pc + 1, L, zI (x - x / y * y) :: st, h)) hf rfl hL (if_neg hc) H
theorem zA_f2d {x : UInt32} (hf : zfetch mi pc = some ((.f2d, b), (1 :: a, ks))) (hL : ztr ks L = L) (hc : FP.f2d x &&& 0x7fffffffffffffff ≤ 0x7ff0000000000000) (H : zAt mi (pc + 1) L (zD (FP.f2d x) :: st) h o h') : zAt mi pc L (zF x :: st) h o h' :=
  zA_g (c := (pc + 1, L, zD (FP.f2d x) :: st, h)) hf rfl hL (if_pos hc) H
theorem zA_dmul {x y : UInt64} (hf : zfetch mi pc = some ((.dmul, b), (1 :: a, ks))) (hL : ztr ks L = L) (hc : FP.dmul x y &&& 0x7fffffffffffffff ≤ 0x7ff0000000000000) (H : zAt mi (pc + 1) L (zD (FP.dmul x y) :: st) h o h') : zAt mi pc L (zD y :: zD x :: st) h o h' :=
  zA_g (c := (pc + 1, L, zD (FP.dmul x y) :: st, h)) hf rfl hL (if_pos hc) H
theorem zA_fdiv {x y : UInt32} (hf : zfetch mi pc = some ((.fdiv, b), (1 :: a, ks))) (hL : ztr ks L = L) (hc : FP.fdiv x y &&& 0x7fffffff ≤ 0x7f800000) (H : zAt mi (pc + 1) L (zF (FP.fdiv x y) :: st) h o h') : zAt mi pc L (zF y :: zF x :: st) h o h' :=
  zA_g (c := (pc + 1, L, zF (FP.fdiv x y) :: st, h)) hf rfl hL (if_pos hc) H
-- branches
theorem zA_go {off : Int} {t : Nat} (hf : zfetch mi pc = some ((.goto off, b), (3 :: t :: a, ks))) (hL : ztr ks L = L) (H : zAt mi t L st h o h') : zAt mi pc L st h o h' :=
  zA_g (c := (t, L, st, h)) hf rfl hL rfl H
/-- a branch, by what its step answers -/
theorem zA_br {ins : Instr} {t pc' : Nat} {c : Prop} [Decidable c] {st' : List zV} (hf : zfetch mi pc = some ((ins, b), (3 :: t :: a, ks))) (hL : ztr ks L = L) (hs : zsIf ins t pc L st h = some (if c then t else pc + 1, L, st', h)) (hp : (if c then t else pc + 1) = pc') (H : zAt mi pc' L st' h o h') : zAt mi pc L st h o h' :=
  zA_g (c := (pc', L, st', h)) hf rfl hL (by rw [← hp]; exact hs) H
theorem zA_brT {ins : Instr} {t : Nat} {c : Prop} [Decidable c] {st' : List zV} (hf : zfetch mi pc = some ((ins, b), (3 :: t :: a, ks))) (hL : ztr ks L = L) (hs : zsIf ins t pc L st h = some (if c then t else pc + 1, L, st', h)) (hc : c) (H : zAt mi t L st' h o h') : zAt mi pc L st h o h' :=
  zA_br hf hL hs (if_pos hc) H
theorem zA_brF {ins : Instr} {t : Nat} {c : Prop} [Decidable c] {st' : List zV} (hf : zfetch mi pc = some ((ins, b), (3 :: t :: a, ks))) (hL : ztr ks L = L) (hs : zsIf ins t pc L st h = some (if c then t else pc + 1, L, st', h)) (hc : ¬ c) (H : zAt mi (pc + 1) L st' h o h') : zAt mi pc L st h o h' :=
  zA_br hf hL hs (if_neg hc) H
theorem zA_brT' {ins : Instr} {t : Nat} {c : Prop} [Decidable c] {st' : List zV} (hf : zfetch mi pc = some ((ins, b), (3 :: t :: a, ks))) (hL : ztr ks L = L) (hs : zsIf ins t pc L st h = some (if c then pc + 1 else t, L, st', h)) (hc : ¬ c) (H : zAt mi t L st' h o h') : zAt mi pc L st h o h' :=
  zA_g (c := (t, L, st', h)) hf rfl hL (hs.trans (by rw [if_neg hc])) H
theorem zA_brF' {ins : Instr} {t : Nat} {c : Prop} [Decidable c] {st' : List zV} (hf : zfetch mi pc = some ((ins, b), (3 :: t :: a, ks))) (hL : ztr ks L = L) (hs : zsIf ins t pc L st h = some (if c then pc + 1 else t, L, st', h)) (hc : c) (H : zAt mi (pc + 1) L st' h o h') : zAt mi pc L st h o h' :=
  zA_g (c := (pc + 1, L, st', h)) hf rfl hL (hs.trans (by rw [if_pos hc])) H
theorem zIf_null {off : Int} {t : Nat} {q : zq} : zsIf (.ifnull off) t pc L (zrv q :: st) h = some (if q = none then t else pc + 1, L, st, h) := by cases q <;> rfl
theorem zIf_nonnull {off : Int} {t : Nat} {q : zq} : zsIf (.ifnonnull off) t pc L (zrv q :: st) h = some (if q = none then pc + 1 else t, L, st, h) := by cases q <;> rfl
theorem zref_rv (q : zq) : zref (zrv q) = some q := by cases q <;> rfl
theorem zIf_aeq {off : Int} {t : Nat} {q w : zq} : zsIf (.if_acmp .eq off) t pc L (zrv q :: zrv w :: st) h = some (if w = q then t else pc + 1, L, st, h) := by
  show ((zref (zrv w)).bind fun x => (zref (zrv q)).bind fun y => _) = _
  rw [zref_rv, zref_rv]
  rfl
theorem zIf_ane {off : Int} {t : Nat} {q w : zq} : zsIf (.if_acmp .ne off) t pc L (zrv q :: zrv w :: st) h = some (if w = q then pc + 1 else t, L, st, h) := by
  show ((zref (zrv w)).bind fun x => (zref (zrv q)).bind fun y => _) = _
  rw [zref_rv, zref_rv]
  rfl
theorem zA_swD {d0 lo hi : Int} {offs : Array Int} {d : Nat} {x : Int32} (hf : zfetch mi pc = some ((.tableswitch d0 lo hi offs, b), (4 :: d :: a, ks))) (hL : ztr ks L = L) (hc : x.toInt < lo ∨ hi < x.toInt) (H : zAt mi d L st h o h') : zAt mi pc L (zI x :: st) h o h' :=
  zA_g (c := (d, L, st, h)) hf rfl hL (if_pos hc) H
theorem zA_swT {d0 lo hi : Int} {offs : Array Int} {d t j : Nat} {x : Int32} (hf : zfetch mi pc = some ((.tableswitch d0 lo hi offs, b), (4 :: d :: a, ks))) (hL : ztr ks L = L) (hc : ¬ (x.toInt < lo ∨ hi < x.toInt)) (hj : (x.toInt - lo).toNat = j) (ht : a[j]? = some t) (H : zAt mi t L st h o h') : zAt mi pc L (zI x :: st) h o h' :=
  zA_g (c := (t, L, st, h)) hf rfl hL ((if_neg hc).trans (by rw [hj, ht]; rfl)) H
-- fields
theorem zA_gf0 {idx ci j t : Nat} {q : zq} {k i : Nat} (hf : zfetch mi pc = some ((.getfield idx, b), (5 :: [ci, j, t], ks))) (hL : ztr ks L = L) (ht : t = 0 ∨ t = 1) (e : q = some (k, i)) (hc : (ztg k == 0 && zkc k == ci) = true) (H : zAt mi (pc + 1) L (zI (zi h k i j) :: st) h o h') : zAt mi pc L (zrv q :: st) h o h' := by
  subst e
  refine zA_g (c := (pc + 1, L, zI (zi h k i j) :: st, h)) hf rfl hL ?_ H
  show (bif ztg k == 0 && zkc k == ci then _ else none) = _
  rw [hc]
  rcases ht with rfl | rfl <;> rfl
theorem zA_gf2 {idx ci j : Nat} {q : zq} {k i : Nat} (hf : zfetch mi pc = some ((.getfield idx, b), (5 :: [ci, j, 2], ks))) (hL : ztr ks L = L) (e : q = some (k, i)) (hc : (ztg k == 0 && zkc k == ci) = true) (H : zAt mi (pc + 1) L (zD (zd h k i j) :: st) h o h') : zAt mi pc L (zrv q :: st) h o h' := by
  subst e
  refine zA_g (c := (pc + 1, L, zD (zd h k i j) :: st, h)) hf rfl hL ?_ H
  show (bif ztg k == 0 && zkc k == ci then _ else none) = _
  rw [hc]
  rfl
theorem zA_gf3 {idx ci j : Nat} {q : zq} {k i : Nat} (hf : zfetch mi pc = some ((.getfield idx, b), (5 :: [ci, j, 3], ks))) (hL : ztr ks L = L) (e : q = some (k, i)) (hc : (ztg k == 0 && zkc k == ci) = true) (H : zAt mi (pc + 1) L (zrv (zr h k i j) :: st) h o h') : zAt mi pc L (zrv q :: st) h o h' := by
  subst e
  refine zA_g (c := (pc + 1, L, zrv (zr h k i j) :: st, h)) hf rfl hL ?_ H
  show (bif ztg k == 0 && zkc k == ci then _ else none) = _
  rw [hc]
  rfl
theorem zA_pf0 {idx ci j : Nat} {q : zq} {k i : Nat} {x : Int32} (hf : zfetch mi pc = some ((.putfield idx, b), (5 :: [ci, j, 0], ks))) (hL : ztr ks L = L) (e : q = some (k, i)) (hc : (ztg k == 0 && zkc k == ci) = true) (hh : h1 = zsi h k i j x) (H : zAt mi (pc + 1) L st h1 o h') : zAt mi pc L (zI x :: zrv q :: st) h o h' := by
  subst e hh
  refine zA_g (c := (pc + 1, L, st, zsi h k i j x)) hf rfl hL ?_ H
  show (bif ztg k == 0 && zkc k == ci then _ else none) = _
  rw [hc]
  rfl
theorem zA_pf1 {idx ci j : Nat} {q : zq} {k i : Nat} {x : Int32} (hf : zfetch mi pc = some ((.putfield idx, b), (5 :: [ci, j, 1], ks))) (hL : ztr ks L = L) (e : q = some (k, i)) (hc : (ztg k == 0 && zkc k == ci) = true) (hx : x = 0 ∨ x = 1) (hh : h1 = zsi h k i j x) (H : zAt mi (pc + 1) L st h1 o h') : zAt mi pc L (zI x :: zrv q :: st) h o h' := by
  subst e hh
  refine zA_g (c := (pc + 1, L, st, zsi h k i j x)) hf rfl hL ?_ H
  show (bif ztg k == 0 && zkc k == ci then _ else none) = _
  rw [hc]
  exact if_pos hx
theorem zA_pf2 {idx ci j : Nat} {q : zq} {k i : Nat} {x : UInt64} (hf : zfetch mi pc = some ((.putfield idx, b), (5 :: [ci, j, 2], ks))) (hL : ztr ks L = L) (e : q = some (k, i)) (hc : (ztg k == 0 && zkc k == ci) = true) (hh : h1 = zsd h k i j x) (H : zAt mi (pc + 1) L st h1 o h') : zAt mi pc L (zD x :: zrv q :: st) h o h' := by
  subst e hh
  refine zA_g (c := (pc + 1, L, st, zsd h k i j x)) hf rfl hL ?_ H
  show (bif ztg k == 0 && zkc k == ci then _ else none) = _
  rw [hc]
  rfl
theorem zA_pf3 {idx ci j : Nat} {q w : zq} {k i : Nat} (hf : zfetch mi pc = some ((.putfield idx, b), (5 :: [ci, j, 3], ks))) (hL : ztr ks L = L) (e : q = some (k, i)) (hc : (ztg k == 0 && zkc k == ci) = true) (hh : h1 = zsr h k i j w) (H : zAt mi (pc + 1) L st h1 o h') : zAt mi pc L (zrv w :: zrv q :: st) h o h' := by
  subst e hh
  refine zA_g (c := (pc + 1, L, st, zsr h k i j w)) hf rfl hL ?_ H
  cases w <;> (show (bif ztg k == 0 && zkc k == ci then _ else none) = _; rw [hc]; rfl)
-- arrays
theorem zA_ial {q : zq} {k i : Nat} {x : Int32} (hf : zfetch mi pc = some ((.iaload, b), (6 :: a, ks))) (hL : ztr ks L = L) (e : q = some (k, i)) (hc : (ztg k == 1 || ztg k == 10) = true) {j : Nat} (hx : ¬ (x < 0 ∨ zln h k i ≤ j)) (hj : j = x.toNatClampNeg) {v : Int32} (hv : v = zi h k i j) (H : zAt mi (pc + 1) L (zI v :: st) h o h') : zAt mi pc L (zI x :: zrv q :: st) h o h' := by
  subst hj hv
  subst e
  refine zA_g (c := (pc + 1, L, zI (zi h k i x.toNatClampNeg) :: st, h)) hf rfl hL ?_ H
  show (bif ztg k == 1 || ztg k == 10 then _ else none) = _
  rw [hc]
  exact if_neg hx
theorem zA_bal {q : zq} {k i : Nat} {x : Int32} (hf : zfetch mi pc = some ((.baload, b), (6 :: a, ks))) (hL : ztr ks L = L) (e : q = some (k, i)) (hc : (ztg k == 2) = true) {j : Nat} (hx : ¬ (x < 0 ∨ zln h k i ≤ j)) (hj : j = x.toNatClampNeg) {v : Int32} (hv : v = zi h k i j) (H : zAt mi (pc + 1) L (zI v :: st) h o h') : zAt mi pc L (zI x :: zrv q :: st) h o h' := by
  subst hj hv
  subst e
  refine zA_g (c := (pc + 1, L, zI (zi h k i x.toNatClampNeg) :: st, h)) hf rfl hL ?_ H
  show (bif ztg k == 2 then _ else none) = _
  rw [hc]
  exact if_neg hx
theorem zA_lal {q : zq} {k i : Nat} {x : Int32} (hf : zfetch mi pc = some ((.laload, b), (6 :: a, ks))) (hL : ztr ks L = L) (e : q = some (k, i)) (hc : (ztg k == 3) = true) {j : Nat} (hx : ¬ (x < 0 ∨ zln h k i ≤ j)) (hj : j = x.toNatClampNeg) {v : Int64} (hv : v = zl h k i j) (H : zAt mi (pc + 1) L (zJ v :: st) h o h') : zAt mi pc L (zI x :: zrv q :: st) h o h' := by
  subst hj hv
  subst e
  refine zA_g (c := (pc + 1, L, zJ (zl h k i x.toNatClampNeg) :: st, h)) hf rfl hL ?_ H
  show (bif ztg k == 3 then _ else none) = _
  rw [hc]
  exact if_neg hx
theorem zA_dal {q : zq} {k i : Nat} {x : Int32} (hf : zfetch mi pc = some ((.daload, b), (6 :: a, ks))) (hL : ztr ks L = L) (e : q = some (k, i)) (hc : (ztg k == 4) = true) {j : Nat} (hx : ¬ (x < 0 ∨ zln h k i ≤ j)) (hj : j = x.toNatClampNeg) {v : UInt64} (hv : v = zd h k i j) (H : zAt mi (pc + 1) L (zD v :: st) h o h') : zAt mi pc L (zI x :: zrv q :: st) h o h' := by
  subst hj hv
  subst e
  refine zA_g (c := (pc + 1, L, zD (zd h k i x.toNatClampNeg) :: st, h)) hf rfl hL ?_ H
  show (bif ztg k == 4 then _ else none) = _
  rw [hc]
  exact if_neg hx
theorem zA_aal {q : zq} {k i : Nat} {x : Int32} (hf : zfetch mi pc = some ((.aaload, b), (6 :: a, ks))) (hL : ztr ks L = L) (e : q = some (k, i)) (hc : (ztg k == 5) = true) {j : Nat} (hx : ¬ (x < 0 ∨ zln h k i ≤ j)) (hj : j = x.toNatClampNeg) {v : zq} (hv : v = zr h k i j) (H : zAt mi (pc + 1) L (zrv v :: st) h o h') : zAt mi pc L (zI x :: zrv q :: st) h o h' := by
  subst hj hv
  subst e
  refine zA_g (c := (pc + 1, L, zrv (zr h k i x.toNatClampNeg) :: st, h)) hf rfl hL ?_ H
  show (bif ztg k == 5 then _ else none) = _
  rw [hc]
  exact if_neg hx
theorem zA_ias {q : zq} {k i : Nat} {x y : Int32} (hf : zfetch mi pc = some ((.iastore, b), (6 :: a, ks))) (hL : ztr ks L = L) (e : q = some (k, i)) (hc : (ztg k == 1) = true) {j : Nat} (hx : ¬ (x < 0 ∨ zln h k i ≤ j)) (hj : j = x.toNatClampNeg) (hh : h1 = zsi h k i j y) (H : zAt mi (pc + 1) L st h1 o h') : zAt mi pc L (zI y :: zI x :: zrv q :: st) h o h' := by
  subst hj
  subst e hh
  refine zA_g (c := (pc + 1, L, st, zsi h k i x.toNatClampNeg y)) hf rfl hL ?_ H
  show (bif ztg k == 1 then _ else none) = _
  rw [hc]
  exact if_neg hx
theorem zA_bas {q : zq} {k i : Nat} {x y : Int32} (hf : zfetch mi pc = some ((.bastore, b), (6 :: a, ks))) (hL : ztr ks L = L) (e : q = some (k, i)) (hc : (ztg k == 2) = true) {j : Nat} (hx : ¬ (x < 0 ∨ zln h k i ≤ j)) (hj : j = x.toNatClampNeg) (hy : y = 0 ∨ y = 1) (hh : h1 = zsi h k i j y) (H : zAt mi (pc + 1) L st h1 o h') : zAt mi pc L (zI y :: zI x :: zrv q :: st) h o h' := by
  subst hj
  subst e hh
  refine zA_g (c := (pc + 1, L, st, zsi h k i x.toNatClampNeg y)) hf rfl hL ?_ H
  show (bif ztg k == 2 then _ else none) = _
  rw [hc]
  exact (if_neg hx).trans (if_pos hy)
theorem zA_las {q : zq} {k i : Nat} {x : Int32} {y : Int64} (hf : zfetch mi pc = some ((.lastore, b), (6 :: a, ks))) (hL : ztr ks L = L) (e : q = some (k, i)) (hc : (ztg k == 3) = true) {j : Nat} (hx : ¬ (x < 0 ∨ zln h k i ≤ j)) (hj : j = x.toNatClampNeg) (hh : h1 = zsl h k i j y) (H : zAt mi (pc + 1) L st h1 o h') : zAt mi pc L (zJ y :: zI x :: zrv q :: st) h o h' := by
  subst hj
  subst e hh
  refine zA_g (c := (pc + 1, L, st, zsl h k i x.toNatClampNeg y)) hf rfl hL ?_ H
  show (bif ztg k == 3 then _ else none) = _
  rw [hc]
  exact if_neg hx
theorem zA_das {q : zq} {k i : Nat} {x : Int32} {y : UInt64} (hf : zfetch mi pc = some ((.dastore, b), (6 :: a, ks))) (hL : ztr ks L = L) (e : q = some (k, i)) (hc : (ztg k == 4) = true) {j : Nat} (hx : ¬ (x < 0 ∨ zln h k i ≤ j)) (hj : j = x.toNatClampNeg) (hh : h1 = zsd h k i j y) (H : zAt mi (pc + 1) L st h1 o h') : zAt mi pc L (zD y :: zI x :: zrv q :: st) h o h' := by
  subst hj
  subst e hh
  refine zA_g (c := (pc + 1, L, st, zsd h k i x.toNatClampNeg y)) hf rfl hL ?_ H
  show (bif ztg k == 4 then _ else none) = _
  rw [hc]
  exact if_neg hx
theorem zA_aasN {q : zq} {k i : Nat} {x : Int32} (hf : zfetch mi pc = some ((.aastore, b), (6 :: a, ks))) (hL : ztr ks L = L) (e : q = some (k, i)) (hc : (ztg k == 5) = true) {j : Nat} (hx : ¬ (x < 0 ∨ zln h k i ≤ j)) (hj : j = x.toNatClampNeg) (hh : h1 = zsr h k i j none) (H : zAt mi (pc + 1) L st h1 o h') : zAt mi pc L (zrv none :: zI x :: zrv q :: st) h o h' := by
  subst hj
  subst e hh
  refine zA_g (c := (pc + 1, L, st, zsr h k i x.toNatClampNeg none)) hf rfl hL ?_ H
  show (bif ztg k == 5 then _ else none) = _
  rw [hc]
  exact if_neg hx
theorem zA_aas {q w : zq} {k i k2 i2 : Nat} {x : Int32} (hf : zfetch mi pc = some ((.aastore, b), (6 :: a, ks))) (hL : ztr ks L = L) (e : q = some (k, i)) (e2 : w = some (k2, i2)) (hc : (ztg k == 5 && ztg k2 == 0 && zkc k == zkc k2) = true) {j : Nat} (hx : ¬ (x < 0 ∨ zln h k i ≤ j)) (hj : j = x.toNatClampNeg) (hh : h1 = zsr h k i j (some (k2, i2))) (H : zAt mi (pc + 1) L st h1 o h') : zAt mi pc L (zrv w :: zI x :: zrv q :: st) h o h' := by
  subst hj
  subst e e2 hh
  refine zA_g (c := (pc + 1, L, st, zsr h k i x.toNatClampNeg (some (k2, i2)))) hf rfl hL ?_ H
  show (bif ztg k == 5 && ztg k2 == 0 && zkc k == zkc k2 then _ else none) = _
  rw [hc]
  exact if_neg hx
theorem zA_len {q : zq} {k i : Nat} (hf : zfetch mi pc = some ((.arraylength, b), (6 :: a, ks))) (hL : ztr ks L = L) (e : q = some (k, i)) (hc : (ztg k == 1 || ztg k == 10) = true) (H : zAt mi (pc + 1) L (zI (nI (zln h k i)) :: st) h o h') : zAt mi pc L (zrv q :: st) h o h' := by
  subst e
  refine zA_g (c := (pc + 1, L, zI (nI (zln h k i)) :: st, h)) hf rfl hL ?_ H
  show (bif ztg k == 1 || ztg k == 10 then _ else none) = _
  rw [hc]
  rfl
-- new
theorem zA_new {idx k n : Nat} (hf : zfetch mi pc = some ((.new idx, b), (7 :: [k], ks))) (hL : ztr ks L = L) (hs : ∀ (pc : Nat) (L : zLs) (st : List zV) (h : zH), zsNew (.new idx) [k] pc L st h = some (pc + 1, L, zR k (zct h k) :: st, znw h k 0 n)) (hh : h1 = znw h k 0 n) (H : zAt mi (pc + 1) L (zrv (some (k, zct h k)) :: st) h1 o h') : zAt mi pc L st h o h' := by
  subst hh
  exact zA_g (c := (pc + 1, L, zR k (zct h k) :: st, znw h k 0 n)) hf rfl hL (hs pc L st h) H
theorem zA_newA {ins : Instr} {k : Nat} {x : Int32} (hf : zfetch mi pc = some ((ins, b), (7 :: [k], ks))) (hL : ztr ks L = L) (hs : ∀ (pc : Nat) (L : zLs) (st : List zV) (h : zH) (x : Int32), zsNew ins [k] pc L (zI x :: st) h = (if x < 0 ∨ 100000 < x.toNatClampNeg then none else some (pc + 1, L, zR k (zct h k) :: st, znw h k x.toNatClampNeg x.toNatClampNeg))) (hc : ¬ (x < 0 ∨ 100000 < x.toNatClampNeg)) (hh : h1 = znw h k x.toNatClampNeg x.toNatClampNeg) (H : zAt mi (pc + 1) L (zrv (some (k, zct h k)) :: st) h1 o h') : zAt mi pc L (zI x :: st) h o h' := by
  subst hh
  exact zA_g (c := (pc + 1, L, zR k (zct h k) :: st, znw h k x.toNatClampNeg x.toNatClampNeg)) hf rfl hL ((hs pc L st h x).trans (if_neg hc)) H
theorem zA_cast {idx ci : Nat} {q : zq} {k i : Nat} (hf : zfetch mi pc = some ((.checkcast idx, b), (7 :: [ci], ks))) (hL : ztr ks L = L) (e : q = some (k, i)) (hc : (ztg k == 0 && zkc k == ci) = true) (H : zAt mi (pc + 1) L (zrv q :: st) h o h') : zAt mi pc L (zrv q :: st) h o h' := by
  subst e
  refine zA_g (c := (pc + 1, L, zrv (some (k, i)) :: st, h)) hf rfl hL ?_ H
  show (bif ztg k == 0 && zkc k == ci then _ else none) = _
  rw [hc]
  rfl
-- the library
theorem zA_lib {ins : Instr} {w : Nat} {c : zC} (hf : zfetch mi pc = some ((ins, b), (8 :: w :: a, ks))) (hL : ztr ks L = L) (h5 : Nat.ble st.length 5 = true) (hs : zsLib0 w pc L st h = some c) (H : zAt mi c.1 c.2.1 c.2.2.1 c.2.2.2 o h') : zAt mi pc L st h o h' := by
  refine zA_g (c := c) hf rfl hL ?_ H
  show (bif Nat.ble st.length 5 then zsLib0 w pc L st h else none) = _
  rw [h5]
  exact hs
theorem zA_l0 {ins : Instr} {q : zq} {k i : Nat} (hf : zfetch mi pc = some ((ins, b), (8 :: 0 :: a, ks))) (hL : ztr ks L = L) (h5 : Nat.ble st.length 4 = true) (e : q = some (k, i)) (H : zAt mi (pc + 1) L st h o h') : zAt mi pc L (zrv q :: st) h o h' := by
  subst e
  exact zA_lib (c := (pc + 1, L, st, h)) hf hL h5 rfl H
theorem zA_l1 {ins : Instr} {q : zq} {k i : Nat} (hf : zfetch mi pc = some ((ins, b), (8 :: 1 :: a, ks))) (hL : ztr ks L = L) (h5 : Nat.ble st.length 4 = true) (e : q = some (k, i)) (hc : (ztg k == 9) = true) (hz : zi h k i 1 = 0 ∧ zln h k i = 0) (hh : h1 = zsi h k i 1 1) (H : zAt mi (pc + 1) L st h1 o h') : zAt mi pc L (zrv q :: st) h o h' := by
  subst e hh
  refine zA_lib (c := (pc + 1, L, st, zsi h k i 1 1)) hf hL h5 ?_ H
  show (bif ztg k == 9 then _ else none) = _
  rw [hc]
  exact if_pos hz
theorem zA_l2 {ins : Instr} {q : zq} {k i : Nat} {v : Int32} (hf : zfetch mi pc = some ((ins, b), (8 :: 2 :: a, ks))) (hL : ztr ks L = L) (h5 : Nat.ble st.length 4 = true) (e : q = some (k, i)) (hc : (ztg k == 9) = true) (hz : zi h k i 1 = 1) (hv : v = nI (zln h k i)) (H : zAt mi (pc + 1) L (zI v :: st) h o h') : zAt mi pc L (zrv q :: st) h o h' := by
  subst e hv
  refine zA_lib (c := (pc + 1, L, zI (nI (zln h k i)) :: st, h)) hf hL h5 ?_ H
  show (bif ztg k == 9 then _ else none) = _
  rw [hc]
  exact if_pos hz
theorem zA_l3 {ins : Instr} {q : zq} {k i : Nat} {x : Int32} {v : zq} (hf : zfetch mi pc = some ((ins, b), (8 :: 3 :: a, ks))) (hL : ztr ks L = L) (h5 : Nat.ble st.length 3 = true) (e : q = some (k, i)) (hc : (ztg k == 9) = true) (hz : zi h k i 1 = 1) (hx : ¬ (x < 0 ∨ zln h k i ≤ x.toNatClampNeg ∨ 33 < zln h k i)) (hv : v = zr h k i x.toNatClampNeg) (H : zAt mi (pc + 1) L (zrv v :: st) h o h') : zAt mi pc L (zI x :: zrv q :: st) h o h' := by
  subst e hv
  refine zA_lib (c := (pc + 1, L, zrv (zr h k i x.toNatClampNeg) :: st, h)) hf hL h5 ?_ H
  show (bif ztg k == 9 then _ else none) = _
  rw [hc]
  exact (if_pos hz).trans (if_neg hx)
def zladd (h : zH) (k i k2 i2 : Nat) : zH := if zcap (zln h k i) = zln h k i then zro (zsn (zsr h k i (zln h k i) (some (k2, i2))) k i (zln h k i + 1)) 1 (zcap (zln h k i + 1)) else zsn (zsr h k i (zln h k i) (some (k2, i2))) k i (zln h k i + 1)
theorem zA_l4 {ins : Instr} {q w : zq} {k i k2 i2 : Nat} (hf : zfetch mi pc = some ((ins, b), (8 :: 4 :: a, ks))) (hL : ztr ks L = L) (h5 : Nat.ble st.length 3 = true) (e : q = some (k, i)) (e2 : w = some (k2, i2)) (hc : (ztg k == 9 && ztg k2 == 0 && (zkc k2 == zel k && zelB h k i)) = true) (hz : zi h k i 1 = 1 ∧ zln h k i < 33) (hh : h1 = zladd h k i k2 i2) (H : zAt mi (pc + 1) L (zI 1 :: st) h1 o h') : zAt mi pc L (zrv w :: zrv q :: st) h o h' := by
  subst e e2 hh
  refine zA_lib (c := (pc + 1, L, zI 1 :: st, zladd h k i k2 i2)) hf hL h5 ?_ H
  show (bif ztg k == 9 && ztg k2 == 0 && (zkc k2 == zel k && zelB h k i) then _ else none) = _
  rw [hc]
  exact if_pos hz
theorem zA_l5 {ins : Instr} {q : zq} {k i : Nat} {x : Int32} (hf : zfetch mi pc = some ((ins, b), (8 :: 5 :: a, ks))) (hL : ztr ks L = L) (h5 : Nat.ble st.length 3 = true) (e : q = some (k, i)) (hc : (ztg k == 1) = true) (hx : ¬ (x < 0 ∨ 100000 < x.toNatClampNeg ∨ x.toNatClampNeg ≤ zln h k i)) (hh : h1 = znwi h 32 x.toNatClampNeg x.toNatClampNeg (fun j => if j < zln h k i then zi h k i j else 0)) (H : zAt mi (pc + 1) L (zrv (some (32, zct h 32)) :: st) h1 o h') : zAt mi pc L (zI x :: zrv q :: st) h o h' := by
  subst e hh
  refine zA_lib (c := (pc + 1, L, zR 32 (zct h 32) :: st, znwi h 32 x.toNatClampNeg x.toNatClampNeg (fun j => if j < zln h k i then zi h k i j else 0))) hf hL h5 ?_ H
  show (bif ztg k == 1 then _ else none) = _
  rw [hc]
  exact if_neg hx
theorem zA_l6 {ins : Instr} {x y : Int32} (hf : zfetch mi pc = some ((ins, b), (8 :: 6 :: a, ks))) (hL : ztr ks L = L) (h5 : Nat.ble st.length 3 = true) (H : zAt mi (pc + 1) L (zI (if y < x then y else x) :: st) h o h') : zAt mi pc L (zI y :: zI x :: st) h o h' :=
  zA_lib (c := (pc + 1, L, zI (if y < x then y else x) :: st, h)) hf hL h5 rfl H
-- ends
theorem zrun_ret {P : zP} {n : Nat} {ins : Instr} {v : Option zV} (hf : P.1 mi pc = some ((ins, b), (10 :: a, ks))) (hs : zret (P.2.1 mi).2 st = some v) : zrun P (n + 1) mi pc L st h = some (.inl v, h) := by
  rw [zrun, hf]
  show (match zret (P.2.1 mi).2 st with | none => none | some v => some ((.inl v : zO), h)) = _
  rw [hs]
theorem zA_ret {ins : Instr} {v : Option zV} (hf : zfetch mi pc = some ((ins, b), (10 :: a, ks))) (hs : zret (zPr.2.1 mi).2 st = some v) : zAt mi pc L st h (.inl v) h :=
  ⟨1, zrun_ret (P := zPr) hf hs⟩
theorem zret_A (q : zq) : zret 3 [zrv q] = some (some (zrv q)) := by cases q <;> rfl
theorem zret_Z {x : Int32} (hx : x = 0 ∨ x = 1) : zret 2 [zI x] = some (some (zI x)) := if_pos hx
theorem zrun_thr {P : zP} {n : Nat} {ins : Instr} {E : Nat} (hf : P.1 mi pc = some ((ins, b), (11 :: E :: a, ks))) (hh : P.2.2 mi = []) : zrun P (n + 1) mi pc L [] h = some (.inr E, zro h 1 6) := by
  rw [zrun, hf]
  show (match P.2.2 mi, ([] : List zV) with | [], [] => some ((.inr E : zO), zro h 1 6) | _, _ => none) = _
  rw [hh]
theorem zA_thr {ins : Instr} {E : Nat} (hf : zfetch mi pc = some ((ins, b), (11 :: E :: a, ks))) (hh : zPr.2.2 mi = []) : zAt mi pc L [] h (.inr E) (zro h 1 6) :=
  ⟨1, zrun_thr (P := zPr) hf hh⟩
-- calls
def zaft (P : zP) (n mi pc kd : Nat) (L : zLs) (st' : List zV) (r : Option (zO × zH)) : Option (zO × zH) := match r with
  | none => none
  | some (.inl none, h') => zrun P n mi (pc + 1) L st' h'
  | some (.inl (some v), h') => zrun P n mi (pc + 1) L (v :: st') h'
  | some (.inr E, h') => bif Nat.blt kd 2 then (match P.2.2 mi with
    | [] => some (.inr E, h')
    | x :: l => match zhnd (x :: l) pc E with
      | some c => some (.inl (some (zI (nI c))), h')
      | none => none) else none
theorem zrun_C {P : zP} {n mj na ci kd : Nat} {ins : Instr} {as st' : List zV} {L0 : zLs} (hf : P.1 mi pc = some ((ins, b), (9 :: mj :: na :: ci :: kd :: a, ks))) (ha : zarg na st = some (as, st')) (hr : zrcv ci as = true) (h4 : zsk4 st' = true) (hp : zpad (P.2.1 mj).1 (zil as) = L0) (hl : L0.length = (P.2.1 mj).1) :
    zrun P (n + 1) mi pc L st h = zaft P n mi pc kd (ztr ks L) st' (zrun P n mj 0 L0 [] h) := by
  have hlen : Nat.ble (zil as).length (P.2.1 mj).1 = true := by
    rw [Nat.ble_eq]
    have := congrArg List.length hp
    unfold zpad at this
    rw [List.length_append, List.length_replicate, hl] at this
    omega
  rw [zrun, hf]
  show (match zarg na st with
    | none => none
    | some (as, st') => bif zrcv ci as && zsk4 st' && Nat.ble (zil as).length (P.2.1 mj).1 then zaft P n mi pc kd (ztr ks L) st' (zrun P n mj 0 (zpad (P.2.1 mj).1 (zil as)) [] h) else none) = _
  rw [ha]
  show (bif zrcv ci as && zsk4 st' && Nat.ble (zil as).length (P.2.1 mj).1 then zaft P n mi pc kd (ztr ks L) st' (zrun P n mj 0 (zpad (P.2.1 mj).1 (zil as)) [] h) else none) = _
  rw [hr, h4, hlen, hp]
  rfl
theorem zA_call {mj na ci kd : Nat} {ins : Instr} {as st' : List zV} {L0 : zLs} {v : Option zV} (hf : zfetch mi pc = some ((ins, b), (9 :: mj :: na :: ci :: kd :: a, ks))) (hL : ztr ks L = L) (ha : zarg na st = some (as, st')) (hr : zrcv ci as = true) (h4 : zsk4 st' = true) (hp : zpad (zPr.2.1 mj).1 (zil as) = L0) (hl : L0.length = (zPr.2.1 mj).1)
    (C : zAt mj 0 L0 [] h (.inl v) h1) (H : zAt mi (pc + 1) L (v.toList ++ st') h1 o h') : zAt mi pc L st h o h' := by
  obtain ⟨n1, C⟩ := C
  obtain ⟨n2, H⟩ := H
  refine ⟨max n1 n2 + 1, ?_⟩
  rw [zrun_C (P := zPr) hf ha hr h4 hp hl, zrun_up C (Nat.le_max_left n1 n2), hL]
  cases v with
  | none => exact zrun_up H (Nat.le_max_right _ _)
  | some v => exact zrun_up H (Nat.le_max_right _ _)
theorem zA_callX {mj na ci kd E : Nat} {ins : Instr} {as st' : List zV} {L0 : zLs} (hf : zfetch mi pc = some ((ins, b), (9 :: mj :: na :: ci :: kd :: a, ks))) (ha : zarg na st = some (as, st')) (hr : zrcv ci as = true) (h4 : zsk4 st' = true) (hp : zpad (zPr.2.1 mj).1 (zil as) = L0) (hl : L0.length = (zPr.2.1 mj).1)
    (hk : Nat.blt kd 2 = true) (hh : zPr.2.2 mi = []) (C : zAt mj 0 L0 [] h (.inr E) h1) : zAt mi pc L st h (.inr E) h1 := by
  obtain ⟨n1, C⟩ := C
  refine ⟨n1 + 1, ?_⟩
  rw [zrun_C (P := zPr) hf ha hr h4 hp hl, C]
  show (bif Nat.blt kd 2 then (match zPr.2.2 mi with | [] => some ((.inr E : zO), h1) | x :: l => match zhnd (x :: l) pc E with | some c => some ((.inl (some (zI (nI c))) : zO), h1) | none => none) else none) = _
  rw [hk, hh]
  rfl
theorem zA_callH {mj na ci kd E c : Nat} {ins : Instr} {as st' : List zV} {L0 : zLs} {hd : List (Nat × Nat × Nat × Nat)} (hf : zfetch mi pc = some ((ins, b), (9 :: mj :: na :: ci :: kd :: a, ks))) (ha : zarg na st = some (as, st')) (hr : zrcv ci as = true) (h4 : zsk4 st' = true) (hp : zpad (zPr.2.1 mj).1 (zil as) = L0) (hl : L0.length = (zPr.2.1 mj).1)
    (hk : Nat.blt kd 2 = true) (hh : zPr.2.2 mi = hd) (hn : hd ≠ []) (hc : zhnd hd pc E = some c) (C : zAt mj 0 L0 [] h (.inr E) h1) : zAt mi pc L st h (.inl (some (zI (nI c)))) h1 := by
  obtain ⟨n1, C⟩ := C
  refine ⟨n1 + 1, ?_⟩
  rw [zrun_C (P := zPr) hf ha hr h4 hp hl, C]
  show (bif Nat.blt kd 2 then (match zPr.2.2 mi with | [] => some ((.inr E : zO), h1) | x :: l => match zhnd (x :: l) pc E with | some c => some ((.inl (some (zI (nI c))) : zO), h1) | none => none) else none) = _
  rw [hk, hh]
  cases hd with
  | nil => exact absurd rfl hn
  | cons x l =>
    dsimp only [cond_true]
    rw [hc]
theorem zrcv_R {ci k i : Nat} {as : List zV} (hc : (ztg k == 0 && zkc k == ci) = true) : zrcv ci (zrv (some (k, i)) :: as) = true := by
  unfold zrcv
  split
  · rfl
  · rename_i k2 i2 as2 e
    simp only [zrv, List.cons.injEq, Sum.inr.injEq, Prod.mk.injEq] at e
    obtain ⟨⟨rfl, rfl⟩, rfl⟩ := e
    exact hc
  · rename_i h1 h2
    exact absurd rfl (h2 _ _ _)
theorem zA_ist2 {i : Nat} {x y : Int32} (hf : zfetch mi pc = some ((.istore i, b), (0 :: a, ks))) (hL : ztr ks L = L) (hy : y = x) (hz : zset L i (zI y) = L') (H : zAt mi (pc + 1) L' st h o h') : zAt mi pc L (zI x :: st) h o h' := by subst hy; exact zA_ist hf hL hz H
theorem zA_istn2 {i : Fin 4} {x y : Int32} (hf : zfetch mi pc = some ((.istore_n i, b), (0 :: a, ks))) (hL : ztr ks L = L) (hy : y = x) (hz : zset L i.val (zI y) = L') (H : zAt mi (pc + 1) L' st h o h') : zAt mi pc L (zI x :: st) h o h' := by subst hy; exact zA_istn hf hL hz H
theorem zA_fst2 {i : Nat} {x y : UInt32} (hf : zfetch mi pc = some ((.fstore i, b), (0 :: a, ks))) (hL : ztr ks L = L) (hy : y = x) (hz : zset L i (zF y) = L') (H : zAt mi (pc + 1) L' st h o h') : zAt mi pc L (zF x :: st) h o h' := by subst hy; exact zA_fst hf hL hz H
theorem zA_dst2 {i : Nat} {x y : UInt64} (hf : zfetch mi pc = some ((.dstore i, b), (0 :: a, ks))) (hL : ztr ks L = L) (hy : y = x) (hz : zset L i (zD y) = L') (H : zAt mi (pc + 1) L' st h o h') : zAt mi pc L (zD x :: st) h o h' := by subst hy; exact zA_dst hf hL hz H
theorem zA_dstn2 {i : Fin 4} {x y : UInt64} (hf : zfetch mi pc = some ((.dstore_n i, b), (0 :: a, ks))) (hL : ztr ks L = L) (hy : y = x) (hz : zset L i.val (zD y) = L') (H : zAt mi (pc + 1) L' st h o h') : zAt mi pc L (zD x :: st) h o h' := by subst hy; exact zA_dstn hf hL hz H
theorem zA_ast2 {i : Nat} {x y : zq} (hf : zfetch mi pc = some ((.astore i, b), (0 :: a, ks))) (hL : ztr ks L = L) (hy : y = x) (hz : zset L i (zrv y) = L') (H : zAt mi (pc + 1) L' st h o h') : zAt mi pc L (zrv x :: st) h o h' := by subst hy; exact zA_ast hf hL hz H
theorem zA_astn2 {i : Fin 4} {x y : zq} (hf : zfetch mi pc = some ((.astore_n i, b), (0 :: a, ks))) (hL : ztr ks L = L) (hy : y = x) (hz : zset L i.val (zrv y) = L') (H : zAt mi (pc + 1) L' st h o h') : zAt mi pc L (zrv x :: st) h o h' := by subst hy; exact zA_astn hf hL hz H
theorem zA_callV {mj na ci kd : Nat} {ins : Instr} {as st' : List zV} {L0 : zLs} {w : zV} (hf : zfetch mi pc = some ((ins, b), (9 :: mj :: na :: ci :: kd :: a, ks))) (hL : ztr ks L = L) (ha : zarg na st = some (as, st')) (hr : zrcv ci as = true) (h4 : zsk4 st' = true) (hp : zpad (zPr.2.1 mj).1 (zil as) = L0) (hl : L0.length = (zPr.2.1 mj).1)
    (C : zAt mj 0 L0 [] h (.inl (some w)) h1) (H : zAt mi (pc + 1) L (w :: st') h1 o h') : zAt mi pc L st h o h' := zA_call hf hL ha hr h4 hp hl C H
theorem zA_callU {mj na ci kd : Nat} {ins : Instr} {as st' : List zV} {L0 : zLs} (hf : zfetch mi pc = some ((ins, b), (9 :: mj :: na :: ci :: kd :: a, ks))) (hL : ztr ks L = L) (ha : zarg na st = some (as, st')) (hr : zrcv ci as = true) (h4 : zsk4 st' = true) (hp : zpad (zPr.2.1 mj).1 (zil as) = L0) (hl : L0.length = (zPr.2.1 mj).1)
    (C : zAt mj 0 L0 [] h (.inl none) h1) (H : zAt mi (pc + 1) L st' h1 o h') : zAt mi pc L st h o h' := zA_call hf hL ha hr h4 hp hl C H
theorem zrcv_Q {ci k i : Nat} {q : zq} {as : List zV} (e : q = some (k, i)) (hc : (ztg k == 0 && zkc k == ci) = true) : zrcv ci (zrv q :: as) = true := by
  subst e
  exact zrcv_R hc
theorem zil_A (q : zq) (vs : List zV) : zil (zrv q :: vs) = some (zrv q) :: zil vs := by
  rw [zil_cons, zcat_rv]
  rfl
theorem zil_I (x : Int32) (vs : List zV) : zil (zI x :: vs) = some (zI x) :: zil vs := rfl
theorem zil_F (x : UInt32) (vs : List zV) : zil (zF x :: vs) = some (zF x) :: zil vs := rfl
theorem zil_D (x : UInt64) (vs : List zV) : zil (zD x :: vs) = some (zD x) :: none :: zil vs := rfl
theorem zil_N : zil [] = [] := rfl
end ZRULE
