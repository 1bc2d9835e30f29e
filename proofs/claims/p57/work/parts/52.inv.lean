set_option maxRecDepth 16384
/-! All that the class holds; what changes and what stays. -/
def zbk (m : Int) : Int := if m ≤ 0 then 0 else (Nat.log2 m.toNat : Int) + 1
/-- the capital behind a pair -/
def zcst (c : UInt64) (p q : Int) : UInt64 := if 0 ≤ (Op.cmpValue (FP.dcmp c 4626322717216342016) .l) then c else if p = q then c else if p = 0 then FP.dmul c 4602678819172646912 else FP.dmul c 4609434218613702656
def zcpN (s : zS) (k : Int) : Nat → UInt64
  | 0 => 4607182418800017408
  | n + 1 => zcst (zcpN s k n) (s 48 (600 * (2 * k + 1) + n)) (s 48 (600 * (2 * k) + n))
def zprs (s : zS) (k : Int) : Int := if s 47 (2 * k) < s 47 (2 * k + 1) then s 47 (2 * k) else s 47 (2 * k + 1)
def zsk (w : Int) : Nat := if w % 2 = 1 then 7 else 8
def zbi (w : Int) : Nat := if w % 2 = 1 then (w - 1).toNat else (w + 1).toNat
/-- the samples: cd says where the codes are -/
def zCMw (h : zH) (s : zS) (cd : Int → Nat × Nat) (w : Int) : Prop :=
  (((cd w).1 = 30 ∨ (cd w).1 = 32) ∧ (cd w).2 < zct h (cd w).1) ∧ zr h (zsk w) (w / 2).toNat 0 = some (cd w) ∧ (s 47 w ≤ (zln h (cd w).1 (cd w).2 : Int) ∧ 8 ≤ zln h (cd w).1 (cd w).2 ∧ zln h (cd w).1 (cd w).2 ≤ 2048) ∧
  (∀ x : Int, 0 ≤ x → x < s 47 w → zi h (cd w).1 (cd w).2 x.toNat = zE (2 * zbk (s 49 (600 * w + x)) + s 48 (600 * w + x))) ∧ zi h (zsk w) (w / 2).toNat 1 = zE (s 47 w) ∧ zi h (zsk w) (w / 2).toNat 2 = zE (zcnt (fun x => s 48 (600 * w + x) = 1) (s 47 w).toNat) ∧
  zr h (zsk w) (w / 2).toNat 3 = some (31, zbi w) ∧ zln h 31 (zbi w) = 17 ∧ ∀ b : Int, 0 ≤ b → b < 17 → zi h 31 (zbi w) b.toNat = zE (zcnt (fun x => zbk (s 49 (600 * w + x)) = b) (s 47 w).toNat)
def zCM (h : zH) (s : zS) : Prop := (∃ cd : Int → Nat × Nat, (∀ w w' : Int, 0 ≤ w → w < 24 → 0 ≤ w' → w' < 24 → cd w = cd w' → w = w') ∧ ∀ w, 0 ≤ w → w < 24 → zCMw h s cd w) ∧ ∀ k : Int, 0 ≤ k → k < 12 → zd h 10 k.toNat 4 = zcpN s k (zprs s k).toNat
/-- how many of each kind there are -/
def zCN (h : zH) (s : zS) : Prop := (zct h 0 : Int) = s 2 0 ∧ (zct h 21 : Int) = s 2 0 ∧ (zct h 4 : Int) = s 25 0 ∧ (zct h 22 : Int) = s 25 0 ∧ (zct h 23 : Int) = s 25 0 ∧ (zct h 24 : Int) = s 25 0 ∧ (zct h 5 : Int) = s 30 0 ∧ (zct h 25 : Int) = s 30 0 ∧ (zct h 26 : Int) = s 30 0 ∧ (zct h 3 : Int) = s 51 0 ∧ (zct h 11 : Int) = s 58 0 ∧ (zct h 1 : Int) = s 71 0 ∧
  ∀ f x : Int, 0 ≤ f → f < 8 → 0 ≤ x → x < s 65 f → ∀ i, zr h 20 f.toNat x.toNat = some (6, i) → i < zct h 6
def zCl (h : zH) (s : zS) : Prop := zCr h ∧ zCs h s ∧ zCA h s ∧ zCP h s ∧ zCR h s ∧ zCZ h s ∧ zCT h s ∧ zCE h s ∧ zCV h s ∧ zCK h s ∧ zCG h s ∧ zCX h s ∧ zCM h s ∧ zCN h s
/-- the kinds that P takes are the same -/
def zKp (P : Nat → Prop) (h h' : zH) : Prop := ∀ k, P k → zct h' k = zct h k ∧ zln h' k = zln h k ∧ zi h' k = zi h k ∧ zr h' k = zr h k ∧ zd h' k = zd h k ∧ zl h' k = zl h k
theorem zKp.rf {P : Nat → Prop} {h : zH} : zKp P h h := fun _ _ => ⟨rfl, rfl, rfl, rfl, rfl, rfl⟩
theorem zKp.tr {P : Nat → Prop} {h h1 h2 : zH} (a : zKp P h h1) (b : zKp P h1 h2) : zKp P h h2 := fun k hk => by
  obtain ⟨a1, a2, a3, a4, a5, a6⟩ := a k hk
  obtain ⟨b1, b2, b3, b4, b5, b6⟩ := b k hk
  exact ⟨b1.trans a1, b2.trans a2, b3.trans a3, b4.trans a4, b5.trans a5, b6.trans a6⟩
theorem zKp.mn {P Q : Nat → Prop} {h h1 : zH} (a : zKp P h h1) (b : ∀ k, Q k → P k) : zKp Q h h1 := fun k hk => a k (b k hk)
theorem zu_k {α : Type} {f : Nat → Nat → Nat → α} {k i j k' : Nat} {v : α} (h : k' ≠ k) : zu f k i j v k' = f k' := by
  funext i' j'
  exact if_neg fun z => h z.1
theorem zKp_i {P : Nat → Prop} {h : zH} {k i j : Nat} {v : Int32} (hk : ¬ P k) : zKp P h (zsi h k i j v) := fun k' hp => ⟨rfl, rfl, zu_k (fun e => hk (e ▸ hp)), rfl, rfl, rfl⟩
theorem zKp_r {P : Nat → Prop} {h : zH} {k i j : Nat} {v : zq} (hk : ¬ P k) : zKp P h (zsr h k i j v) := fun k' hp => ⟨rfl, rfl, rfl, zu_k (fun e => hk (e ▸ hp)), rfl, rfl⟩
theorem zKp_d {P : Nat → Prop} {h : zH} {k i j : Nat} {v : UInt64} (hk : ¬ P k) : zKp P h (zsd h k i j v) := fun k' hp => ⟨rfl, rfl, rfl, rfl, zu_k (fun e => hk (e ▸ hp)), rfl⟩
theorem zKp_l {P : Nat → Prop} {h : zH} {k i j : Nat} {v : Int64} (hk : ¬ P k) : zKp P h (zsl h k i j v) := fun k' hp => ⟨rfl, rfl, rfl, rfl, rfl, zu_k (fun e => hk (e ▸ hp))⟩
theorem zKp_o {P : Nat → Prop} {h : zH} {c n : Nat} : zKp P h (zro h c n) := fun _ _ => ⟨rfl, rfl, rfl, rfl, rfl, rfl⟩
/-- the class's own kinds; the model's -/
def zpc1 (k : Nat) : Prop := k < 38 ∧ k ≠ 13
def zpm1 (k : Nat) : Prop := k = 13 ∨ 100 ≤ k
def zpo1 (k : Nat) : Prop := k = 38 ∨ k = 39 ∨ k = 40
theorem zCl.kp {h h' : zH} {s : zS} (hC : zCl h s) (hk : zKp zpc1 h h') : zCl h' s := by
  have e : ∀ k, k < 38 → k ≠ 13 → zct h' k = zct h k ∧ zln h' k = zln h k ∧ zi h' k = zi h k ∧ zr h' k = zr h k ∧ zd h' k = zd h k ∧ zl h' k = zl h k := fun k a b => hk k ⟨a, b⟩
  obtain ⟨c1, c2, c3, c4, c5, c6, c7, c8, c9, c10, c11, c12, c13, c14⟩ := hC
  refine ⟨?_, ?_, ?_, ?_, ?_, ?_, ?_, ?_, ?_, ?_, ?_, ?_, ?_, ?_⟩
  · unfold zCr at c1 ⊢
    rw [(e 12 (by decide) (by decide)).2.2.2.1]
    exact c1
  · unfold zCs at c2 ⊢
    rw [(e 12 (by decide) (by decide)).2.2.1]
    exact c2
  · unfold zCA at c3 ⊢
    obtain ⟨-, -, a1, a2, -⟩ := e 0 (by decide) (by decide)
    obtain ⟨-, b0, b1, b2, -⟩ := e 14 (by decide) (by decide)
    obtain ⟨-, d0, d1, d2, -⟩ := e 21 (by decide) (by decide)
    rw [a1, a2, b0, b1, b2, d0, d1]
    exact c3
  · unfold zCP at c4 ⊢
    obtain ⟨-, -, a1, a2, -⟩ := e 4 (by decide) (by decide)
    obtain ⟨-, b0, b1, b2, -⟩ := e 15 (by decide) (by decide)
    obtain ⟨-, d0, d1, d2, -⟩ := e 22 (by decide) (by decide)
    obtain ⟨-, f0, f1, f2, -⟩ := e 23 (by decide) (by decide)
    obtain ⟨-, g0, g1, g2, -⟩ := e 24 (by decide) (by decide)
    rw [a1, a2, b0, b1, b2, d0, d1, f0, f1, g0, g1]
    exact c4
  · unfold zCR at c5 ⊢
    obtain ⟨-, -, a1, a2, -⟩ := e 5 (by decide) (by decide)
    obtain ⟨-, b0, b1, b2, -⟩ := e 16 (by decide) (by decide)
    obtain ⟨-, d0, d1, d2, -⟩ := e 25 (by decide) (by decide)
    obtain ⟨-, f0, f1, f2, -⟩ := e 26 (by decide) (by decide)
    rw [a1, a2, b0, b1, b2, d0, d1, f0, f2]
    exact c5
  · unfold zCZ at c6 ⊢
    obtain ⟨-, -, a1, a2, -⟩ := e 3 (by decide) (by decide)
    obtain ⟨-, b0, b1, b2, -⟩ := e 17 (by decide) (by decide)
    rw [a1, b0, b1, b2]
    exact c6
  · unfold zCT at c7 ⊢
    obtain ⟨-, -, a1, a2, -⟩ := e 11 (by decide) (by decide)
    obtain ⟨-, b0, b1, b2, -⟩ := e 18 (by decide) (by decide)
    rw [a1, b0, b1, b2]
    exact c7
  · unfold zCE at c8 ⊢
    obtain ⟨-, -, a1, a2, -⟩ := e 1 (by decide) (by decide)
    obtain ⟨-, b0, b1, b2, -⟩ := e 19 (by decide) (by decide)
    rw [a1, b0, b1, b2]
    exact c8
  · unfold zCV at c9 ⊢
    obtain ⟨-, -, a1, a2, -⟩ := e 9 (by decide) (by decide)
    obtain ⟨-, b0, b1, b2, -⟩ := e 33 (by decide) (by decide)
    obtain ⟨-, d0, d1, d2, -⟩ := e 27 (by decide) (by decide)
    obtain ⟨-, f0, f1, f2, -⟩ := e 28 (by decide) (by decide)
    obtain ⟨-, g0, g1, g2, -⟩ := e 29 (by decide) (by decide)
    rw [a1, a2, b0, b2, d0, d2, f0, f1, g0, g2]
    exact c9
  · unfold zCK at c10 ⊢
    obtain ⟨-, -, a1, a2, -⟩ := e 10 (by decide) (by decide)
    rw [a1, a2]
    exact c10
  · unfold zCG at c11 ⊢
    obtain ⟨-, -, a1, a2, -⟩ := e 2 (by decide) (by decide)
    obtain ⟨-, b0, b1, b2, -⟩ := e 34 (by decide) (by decide)
    obtain ⟨-, d0, d1, d2, -⟩ := e 20 (by decide) (by decide)
    obtain ⟨-, f0, f1, f2, -⟩ := e 6 (by decide) (by decide)
    rw [a1, a2, b0, b2, d0, d1, d2, f1]
    exact c11
  · unfold zCX at c12 ⊢
    obtain ⟨-, a0, a1, a2, -⟩ := e 35 (by decide) (by decide)
    obtain ⟨-, b0, b1, b2, -⟩ := e 36 (by decide) (by decide)
    obtain ⟨-, d0, d1, d2, -⟩ := e 37 (by decide) (by decide)
    rw [a0, a1, b0, b1, d0, d1]
    exact c12
  · obtain ⟨⟨cd, m1, m2⟩, m3⟩ := c13
    refine ⟨⟨cd, m1, fun w w1 w2 => ?_⟩, fun k k1 k2 => ?_⟩
    · have hz : zsk w < 38 ∧ zsk w ≠ 13 := by unfold zsk; split <;> decide
      obtain ⟨-, -, a1, a2, -⟩ := e (zsk w) hz.1 hz.2
      obtain ⟨-, b0, b1, -⟩ := e 31 (by decide) (by decide)
      have q := m2 w w1 w2
      obtain ⟨d9, d0, d1, -⟩ := e (cd w).1 (by rcases q.1.1 with z | z <;> rw [z] <;> decide) (by rcases q.1.1 with z | z <;> rw [z] <;> decide)
      unfold zCMw at q ⊢
      rw [a1, a2, b0, b1, d0, d1, d9]
      exact q
    · rw [(e 10 (by decide) (by decide)).2.2.2.2.1]
      exact m3 k k1 k2
  · unfold zCN at c14 ⊢
    rw [(e 0 (by decide) (by decide)).1, (e 21 (by decide) (by decide)).1, (e 4 (by decide) (by decide)).1, (e 22 (by decide) (by decide)).1, (e 23 (by decide) (by decide)).1, (e 24 (by decide) (by decide)).1, (e 5 (by decide) (by decide)).1, (e 25 (by decide) (by decide)).1, (e 26 (by decide) (by decide)).1, (e 3 (by decide) (by decide)).1, (e 11 (by decide) (by decide)).1, (e 1 (by decide) (by decide)).1, (e 6 (by decide) (by decide)).1, (e 20 (by decide) (by decide)).2.2.2.1]
    exact c14
/-- what the scratch fields hold counts nothing -/
def zsc (s s' : zS) : Prop := ∀ j, j ≠ 0 → j ≠ 15 → j ≠ 16 → j ≠ 17 → s' j = s j
theorem zsc.rf {s : zS} : zsc s s := fun _ _ _ _ _ => rfl
theorem zsc.tr {s s1 s2 : zS} (a : zsc s s1) (b : zsc s1 s2) : zsc s s2 := fun j h1 h2 h3 h4 => (b j h1 h2 h3 h4).trans (a j h1 h2 h3 h4)
theorem zsc_up {s : zS} {a v : Int} : zsc s (zup s 0 a v) := fun j h _ _ _ => by
  funext b
  exact zup_j h
theorem zCl.sc {h : zH} {s s' : zS} (hC : zCl h s) (e : zsc s s') : zCl h s' := by
  have e : ∀ j, j ≠ 0 ∧ j ≠ 15 ∧ j ≠ 16 ∧ j ≠ 17 → s' j = s j := fun j h => e j h.1 h.2.1 h.2.2.1 h.2.2.2
  have hu : zus s' = zus s := by
    funext a
    unfold zus
    rw [e 12 (by decide), e 13 (by decide), e 18 (by decide)]
  have hs : zss s' = zss s := by
    funext a r
    unfold zss
    rw [e 18 (by decide)]
  have hp : zprs s' = zprs s := by
    funext k
    unfold zprs
    rw [e 47 (by decide)]
  have hc : ∀ k n, zcpN s' k n = zcpN s k n := by
    intro k n
    induction n with
    | zero => rfl
    | succ n ih =>
      show zcst _ _ _ = zcst _ _ _
      rw [ih, e 48 (by decide)]
  obtain ⟨c1, c2, c3, c4, c5, c6, c7, c8, c9, c10, c11, c12, c13, c14⟩ := hC
  refine ⟨c1, ?_, ?_, ?_, ?_, ?_, ?_, ?_, ?_, ?_, ?_, ?_, ?_, ?_⟩
  · unfold zCs at c2 ⊢
    rw [e 1 (by decide), e 43 (by decide), e 45 (by decide), e 19 (by decide), e 46 (by decide), e 39 (by decide), e 44 (by decide)]
    exact c2
  · unfold zCA at c3 ⊢
    rw [e 2 (by decide), e 3 (by decide), e 4 (by decide), e 5 (by decide), e 6 (by decide), e 7 (by decide), e 8 (by decide), e 9 (by decide), e 10 (by decide), e 11 (by decide), hu, hs]
    exact c3
  · unfold zCP at c4 ⊢
    rw [e 25 (by decide), e 26 (by decide), e 27 (by decide), e 28 (by decide), e 29 (by decide), e 30 (by decide), e 32 (by decide)]
    exact c4
  · unfold zCR at c5 ⊢
    rw [e 30 (by decide), e 31 (by decide), e 32 (by decide), e 33 (by decide), e 34 (by decide), e 35 (by decide), e 36 (by decide), e 37 (by decide), e 38 (by decide), e 40 (by decide), e 41 (by decide), e 42 (by decide)]
    exact c5
  · unfold zCZ at c6 ⊢
    rw [e 51 (by decide), e 52 (by decide), e 53 (by decide), e 54 (by decide), e 55 (by decide)]
    exact c6
  · unfold zCT at c7 ⊢
    rw [e 58 (by decide), e 59 (by decide), e 60 (by decide)]
    exact c7
  · unfold zCE at c8 ⊢
    rw [e 71 (by decide), e 72 (by decide), e 73 (by decide), e 74 (by decide), e 75 (by decide), e 76 (by decide), e 77 (by decide)]
    exact c8
  · unfold zCV at c9 ⊢
    rw [e 18 (by decide), e 20 (by decide), e 21 (by decide), e 22 (by decide), e 23 (by decide), e 24 (by decide), e 50 (by decide)]
    exact c9
  · unfold zCK at c10 ⊢
    rw [e 12 (by decide), e 13 (by decide), e 14 (by decide)]
    exact c10
  · unfold zCG at c11 ⊢
    rw [e 61 (by decide), e 62 (by decide), e 63 (by decide), e 64 (by decide), e 65 (by decide), e 66 (by decide), e 67 (by decide), e 68 (by decide), e 69 (by decide)]
    exact c11
  · unfold zCX at c12 ⊢
    rw [e 56 (by decide), e 57 (by decide), e 70 (by decide)]
    exact c12
  · unfold zCM at c13 ⊢
    simp only [zCMw, e 47 (by decide), e 48 (by decide), e 49 (by decide), hc, hp] at c13 ⊢
    exact c13
  · unfold zCN at c14 ⊢
    rw [e 2 (by decide), e 25 (by decide), e 30 (by decide), e 51 (by decide), e 58 (by decide), e 71 (by decide), e 65 (by decide)]
    exact c14
theorem zWf.sc {s s' : zS} (hW : zWf s) (e : zsc s s') : zWf s' := by
  have e : ∀ j, j ≠ 0 ∧ j ≠ 15 ∧ j ≠ 16 ∧ j ≠ 17 → s' j = s j := fun j h => e j h.1 h.2.1 h.2.2.1 h.2.2.2
  obtain ⟨c1, c2, c3, c4, c5, c6, c7, c8, c9, c10, c11, c12⟩ := hW
  refine ⟨?_, ?_, ?_, ?_, ?_, ?_, ?_, ?_, ?_, ?_, ?_, ?_⟩
  · unfold zWa at c1 ⊢
    rw [e 2 (by decide), e 3 (by decide), e 4 (by decide), e 5 (by decide), e 6 (by decide), e 7 (by decide), e 8 (by decide), e 9 (by decide), e 10 (by decide), e 11 (by decide)]
    exact c1
  · unfold zWk at c2 ⊢
    rw [e 2 (by decide), e 3 (by decide), e 12 (by decide), e 13 (by decide), e 14 (by decide)]
    exact c2
  · unfold zWc at c3 ⊢
    rw [e 2 (by decide), e 3 (by decide), e 18 (by decide), e 19 (by decide)]
    exact c3
  · unfold zWd at c4 ⊢
    rw [e 1 (by decide), e 20 (by decide), e 21 (by decide), e 22 (by decide), e 23 (by decide), e 24 (by decide), e 50 (by decide)]
    exact c4
  · unfold zWp at c5 ⊢
    rw [e 25 (by decide), e 26 (by decide), e 27 (by decide), e 28 (by decide), e 29 (by decide)]
    exact c5
  · unfold zWr at c6 ⊢
    rw [e 1 (by decide), e 2 (by decide), e 3 (by decide), e 25 (by decide), e 26 (by decide), e 30 (by decide), e 31 (by decide), e 32 (by decide), e 33 (by decide), e 34 (by decide), e 35 (by decide), e 36 (by decide), e 37 (by decide), e 38 (by decide), e 39 (by decide), e 40 (by decide), e 41 (by decide), e 42 (by decide), e 58 (by decide)]
    exact c6
  · unfold zWz at c7 ⊢
    rw [e 51 (by decide), e 52 (by decide), e 53 (by decide), e 54 (by decide), e 55 (by decide), e 56 (by decide), e 57 (by decide)]
    exact c7
  · unfold zWt at c8 ⊢
    rw [e 58 (by decide), e 59 (by decide), e 60 (by decide)]
    exact c8
  · unfold zWg at c9 ⊢
    rw [e 1 (by decide), e 61 (by decide), e 62 (by decide), e 63 (by decide), e 64 (by decide), e 65 (by decide), e 66 (by decide), e 67 (by decide), e 68 (by decide), e 69 (by decide), e 70 (by decide)]
    exact c9
  · unfold zWe at c10 ⊢
    rw [e 71 (by decide), e 72 (by decide), e 73 (by decide), e 74 (by decide), e 75 (by decide), e 76 (by decide), e 77 (by decide)]
    exact c10
  · unfold zWm at c11 ⊢
    rw [e 46 (by decide), e 47 (by decide), e 48 (by decide), e 49 (by decide)]
    exact c11
  · unfold zWx zac zWn zWq at c12 ⊢
    rw [e 43 (by decide), e 44 (by decide), e 62 (by decide), e 25 (by decide), e 26 (by decide), e 30 (by decide), e 33 (by decide), e 34 (by decide), e 36 (by decide), e 37 (by decide), e 38 (by decide), e 41 (by decide), e 71 (by decide), e 77 (by decide), e 31 (by decide), e 18 (by decide), e 19 (by decide)]
    exact c12

