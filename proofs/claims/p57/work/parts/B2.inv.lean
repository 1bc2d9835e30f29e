set_option maxRecDepth 16384
/-! What holds at each turn of the law. -/
/-- at most n calls have made cells -/
def zFr (n : Nat) (h h' : zH) : Prop := zKp (fun k => ¬ zpc1 k) h h' ∧ zce h' ≤ zce h + 40 * n ∧ zso h' ≤ zso h + 5000 * n
theorem zFr.rf {h : zH} {n : Nat} : zFr n h h := ⟨zKp.rf, by omega, by omega⟩
theorem zFr.tr {n m : Nat} {h h1 h2 : zH} (a : zFr n h h1) (b : zFr m h1 h2) : zFr (n + m) h h2 := by
  obtain ⟨a1, a2, a3⟩ := a
  obtain ⟨b1, b2, b3⟩ := b
  exact ⟨a1.tr b1, by omega, by omega⟩
theorem zFr.le {n m : Nat} {h h1 : zH} (a : zFr n h h1) (e : n ≤ m) : zFr m h h1 := by
  obtain ⟨a1, a2, a3⟩ := a
  have e1 : 40 * n ≤ 40 * m := Nat.mul_le_mul_left _ e
  have e2 : 5000 * n ≤ 5000 * m := Nat.mul_le_mul_left _ e
  exact ⟨a1, by omega, by omega⟩
theorem zDo.go {τ : Type} {h : zH} {s' : zS} {r : zRs τ} {v : τ} (d : zDo h s' r v) : ∃ h1, r = some (.inl v, h1) ∧ zWf s' ∧ zCl h1 s' ∧ zFr 1 h h1 := by
  obtain ⟨W, h1, e, C, K, c, o⟩ := d
  exact ⟨h1, e, W, C, K, by omega, by omega⟩
theorem zFr.scr {L n : Nat} {h h' : zH} (a : zFr n h h') (hS : zScr L h) : zScr L h' := by
  obtain ⟨a1, -, -⟩ := a
  have k := a1 40 (by unfold zpc1; decide)
  exact ⟨by rw [k.2.1]; exact hS.1, hS.2⟩
/-- artefacts, releases, programs, sessions, measures, minutes; the turn -/
def zLi (h : zH) (s : zS) (A R P S M N T : Int) : Prop :=
  (zCl h s ∧ zWf s ∧ zJv s) ∧ (s 2 0 = A ∧ s 30 0 = R ∧ s 25 0 = P ∧ s 46 0 = M ∧ s 1 0 = N) ∧ (0 ≤ R ∧ R ≤ A ∧ R ≤ 20 ∧ A ≤ 30) ∧ (0 ≤ P ∧ P ≤ 3 ∧ (P < 3 → A = 0)) ∧ (0 ≤ S ∧ S ≤ 40 ∧ s 19 0 ≤ S) ∧ (0 ≤ M ∧ M ≤ 505) ∧ (0 ≤ N ∧ N ≤ 6 * T) ∧ (0 ≤ s 45 0 ∧ s 45 0 ≤ 480 * N + 12 * T) ∧ (∀ p, 0 ≤ p → p < P → 1 ≤ s 26 p) ∧ (∀ r, 0 ≤ r → r < R → s 31 r = r) ∧ ∀ v c, 0 ≤ v → v < 4 → S ≤ c → c < 200 → s 18 (200 * v + c) = -1
theorem zLi.up {h : zH} {s : zS} {A R P S M N T : Int} (a : zLi h s A R P S M N T) : zLi h s A R P S M N (T + 1) := by
  obtain ⟨a1, a2, a3, a4, a5, a6, a7, a8, a9⟩ := a
  exact ⟨a1, a2, a3, a4, a5, a6, ⟨a7.1, by omega⟩, ⟨a8.1, by omega⟩, a9⟩
/-- the fields that the law's bounds speak of -/
def zSl (s t : zS) : Prop := t 2 = s 2 ∧ t 30 = s 30 ∧ t 25 = s 25 ∧ t 46 = s 46 ∧ t 1 = s 1 ∧ t 19 = s 19 ∧ t 26 = s 26 ∧ t 31 = s 31 ∧ t 18 = s 18
theorem zLi.sl {h h' : zH} {s t : zS} {A R P S M N T : Int} (a : zLi h s A R P S M N T) (e : zSl s t) (C : zCl h' t) (W : zWf t) (J : zJv t) (E : 0 ≤ t 45 0 ∧ t 45 0 ≤ 480 * N + 12 * T) : zLi h' t A R P S M N T := by
  obtain ⟨a1, a2, a3, a4, a5, a6, a7, a8, a9⟩ := a
  obtain ⟨e1, e2, e3, e4, e5, e6, e7, e8, e9⟩ := e
  refine ⟨⟨C, W, J⟩, ?_, a3, a4, ?_, a6, a7, E, ?_⟩
  · rw [e1, e2, e3, e4, e5]; exact a2
  · rw [e6]; exact a5
  · rw [e7, e8, e9]; exact a9
theorem zup_sj {s : zS} {j : Nat} {a v : Int} (h : j ∉ [2, 3, 5, 6, 7, 8, 9, 12, 13, 18, 30, 31, 41, 42]) : zSj s (zup s j a v) := by
  have k : ∀ i, i ∈ [2, 3, 5, 6, 7, 8, 9, 12, 13, 18, 30, 31, 41, 42] → zup s j a v i = s i := fun i hi => by
    funext u
    exact zup_j (fun z => h (z ▸ hi))
  refine ⟨⟨?_, ?_, ?_, ?_, ?_, ?_, ?_⟩, ?_, ?_, ?_, ?_, ?_, ?_, ?_⟩ <;> exact k _ (by decide)
theorem zup_sl {s : zS} {j : Nat} {a v : Int} (h : j ∉ [2, 30, 25, 46, 1, 19, 26, 31, 18]) : zSl s (zup s j a v) := by
  have k : ∀ i, i ∈ [2, 30, 25, 46, 1, 19, 26, 31, 18] → zup s j a v i = s i := fun i hi => by
    funext u
    exact zup_j (fun z => h (z ▸ hi))
  refine ⟨?_, ?_, ?_, ?_, ?_, ?_, ?_, ?_, ?_⟩ <;> exact k _ (by decide)
/-- a field is written that none of it speaks of -/
theorem zLi.wr {h h' : zH} {s : zS} {A R P S M N T : Int} {j : Nat} {b v : Int} (a : zLi h s A R P S M N T) (hj : j ∉ [2, 3, 5, 6, 7, 8, 9, 12, 13, 18, 30, 31, 41, 42]) (hl : j ∉ [2, 30, 25, 46, 1, 19, 26, 31, 18]) (h45 : j ≠ 45) (C : zCl h' (zup s j b v)) (W : zWf (zup s j b v)) : zLi h' (zup s j b v) A R P S M N T :=
  a.sl (zup_sl hl) C W ((zup_sj hj).J a.1.2.2) (by rw [zup_j (Ne.symm h45)]; exact a.2.2.2.2.2.2.2.1)
abbrev zK : Type := zq → zq → Int32 → Int32 → Int32 → Int32 → Int32 → Int32 → Int32 → Int32 → zH → zRs Int32
/-- a turn comes to the next -/
def zGl (k : zK) (h : zH) (T : Int) (r : zRs Int32) : Prop := ∃ h' s' A R P S M N, zLi h' s' A R P S M N (T + 1) ∧ zFr 8 h h' ∧ r = k (some (40, 0)) (some (12, 0)) (zE A) (zE R) (zE P) (zE S) (zE M) (zE (s' 45 0)) (zE N) (zE (T + 1)) h'
/-- a turn's end: the checks of every turn -/
theorem zl594 {k : zK} {h h' : zH} {s : zS} {A R P S M N T E : Int} {w : Int32} (a : zLi h' s A R P S M N (T + 1)) (F : zFr 8 h h') (T0 : 0 ≤ T ∧ T < 60) (E0 : 0 ≤ E ∧ E ≤ s 45 0) : zGl k h T (zm291_594 k (some (40, 0)) (some (12, 0)) (zE A) (zE R) (zE P) (zE S) (zE M) (zE E) (zE N) (zE T) w (zE 1) h') := by
  have z1 : ¬ zE 1 = zE 0 := by decide
  obtain ⟨C, W, J⟩ := a.1
  have b1 := a.2.2.2.2.2.2.1
  have b2 := a.2.2.2.2.2.2.2.1
  obtain ⟨x, x0, x1, ex⟩ := zl242 (h := h') (w >>> ((5 : Int32) &&& 31)) (n := 2) (by omega) (by omega)
  obtain ⟨y, y0, y1, ey⟩ := zl242 (h := h') (w >>> ((7 : Int32) &&& 31)) (n := 3) (by omega) (by omega)
  have er := zk_isRing C W J (v := x) (g := y) ⟨x0, by omega⟩ ⟨y0, by omega⟩
  refine ⟨h', s, A, R, P, S, M, N, a, F, ?_⟩
  rw [zm291_594, zE_0, if_neg z1, zo_12, zk_forbidden C W J.1, zb_s, if_pos rfl, zk_effects C, zb_s, if_neg (by rw [zE_lt (by omega) (by omega) (by omega) (by omega)]; omega), zE_2, ex, zb_s, zE_3, ey, zb_s, er, zb_s, if_neg z1, zk_effects C, zb_s, zE_1, zE_add, zlet_s]
