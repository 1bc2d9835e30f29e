set_option maxRecDepth 16384
/-! flags: the chain of parents. -/
theorem zcnt_st {P Q : Int → Prop} {x : Int} (x0 : 0 ≤ x) : ∀ n : Nat, (∀ i : Int, 0 ≤ i → i < n → P i → Q i) → zcnt P n ≤ zcnt Q n ∧ (x < n → ¬ P x → Q x → zcnt P n + 1 ≤ zcnt Q n)
  | 0, _ => ⟨Int.le_refl _, fun z => absurd z (by omega)⟩
  | n + 1, h => by
    obtain ⟨i1, i2⟩ := zcnt_st x0 n fun i i0 i1 => h i i0 (by omega)
    show zcnt P n + zcn1 (P n) ≤ zcnt Q n + zcn1 (Q n) ∧ (x < ((n + 1 : Nat) : Int) → ¬ P x → Q x → zcnt P n + zcn1 (P n) + 1 ≤ zcnt Q n + zcn1 (Q n))
    have hP := zcn1_r (P n)
    have hQ := zcn1_r (Q n)
    have hPQ : zcn1 (P n) ≤ zcn1 (Q n) := by
      by_cases e : P n
      · rw [zcn1_t (h n (by omega) (by omega) e)]; omega
      · rw [zcn1_f e]; omega
    refine ⟨by omega, fun x1 p q => ?_⟩
    by_cases e : x = n
    · subst e
      rw [zcn1_f p, zcn1_t q]
      omega
    · have := i2 (by omega) p q
      omega
/-- the depth of a flag -/
theorem zac_r {s : zS} (h : zac s) (hp : ∀ f, 0 ≤ f → f < 8 → -1 ≤ s 62 f ∧ s 62 f ≤ 7) : ∃ rank : Int → Int, ∀ f, 0 ≤ f → f < 8 → (0 ≤ rank f ∧ rank f ≤ 7) ∧ (s 62 f ≠ -1 → rank (s 62 f) < rank f) := by
  obtain ⟨key, hk⟩ := h
  refine ⟨fun x => zcnt (fun y => key y < key x) 8, fun f f0 f1 => ⟨?_, fun e => ?_⟩⟩
  · have h1 := zcnt_r (fun y => key y < key f) 8
    have h2 := (zcnt_st (P := fun y => key y < key f) (Q := fun _ => True) f0 8 (fun _ _ _ _ => trivial)).2 (by omega) (by omega) trivial
    have h3 := zcnt_r (fun _ => True) 8
    exact ⟨h1.1, by have := h3.2; have : ((8 : Nat) : Int) = 8 := rfl; show zcnt (fun y => key y < key f) 8 ≤ 7; omega⟩
  · have h0 := hp f f0 f1
    have h1 := hk f f0 f1 e
    have h2 := (zcnt_st (P := fun y => key y < key (s 62 f)) (Q := fun y => key y < key f) (x := s 62 f) (by omega) 8 (fun i _ _ z => Int.lt_trans z h1)).2 (by omega) (by omega) h1
    show zcnt (fun y => key y < key (s 62 f)) 8 < zcnt (fun y => key y < key f) 8
    omega
/-- the flag's parents, one after another -/
def zpa (s : zS) (p : Int) : Nat → Int
  | 0 => p
  | n + 1 => if zpa s p n = -1 then -1 else s 62 (zpa s p n)
theorem zpa_r {s : zS} (hp : ∀ f, 0 ≤ f → f < 8 → -1 ≤ s 62 f ∧ s 62 f ≤ 7) {p : Int} (p0 : -1 ≤ p ∧ p ≤ 7) : ∀ n, -1 ≤ zpa s p n ∧ zpa s p n ≤ 7
  | 0 => p0
  | n + 1 => by
    have ih := zpa_r hp p0 n
    show -1 ≤ (if zpa s p n = -1 then -1 else s 62 (zpa s p n)) ∧ (if zpa s p n = -1 then -1 else s 62 (zpa s p n)) ≤ 7
    by_cases e : zpa s p n = -1
    · rw [if_pos e]; omega
    · rw [if_neg e]; exact hp _ (by omega) (by omega)
theorem zpa_8 {s : zS} (h : zac s) (hp : ∀ f, 0 ≤ f → f < 8 → -1 ≤ s 62 f ∧ s 62 f ≤ 7) {p : Int} (p0 : -1 ≤ p ∧ p ≤ 7) : zpa s p 8 = -1 := by
  obtain ⟨rank, hr⟩ := zac_r h hp
  have st : ∀ n : Nat, zpa s p n ≠ -1 → rank (zpa s p n) + n ≤ 7 := by
    intro n
    induction n with
    | zero =>
      intro e
      have e1 : p ≠ -1 := e
      have := (hr p (by omega) (by omega)).1
      show rank p + 0 ≤ 7
      omega
    | succ n ih =>
      intro e
      have r0 := zpa_r hp p0 n
      by_cases e1 : zpa s p n = -1
      · exact absurd (if_pos e1) e
      · have e2 : zpa s p (n + 1) = s 62 (zpa s p n) := if_neg e1
        have h1 := ih e1
        have h2 := (hr (zpa s p n) (by omega) (by omega)).2 (by rw [← e2]; exact e)
        rw [e2]
        omega
  by_cases e : zpa s p 8 = -1
  · exact e
  · have h1 := st 8 e
    have r0 := zpa_r hp p0 8
    have := (hr (zpa s p 8) (by omega) (by omega)).1
    omega
theorem zpa_m {s : zS} {p : Int} {n : Nat} (e : zpa s p n = -1) : ∀ m, n ≤ m → zpa s p m = -1 := by
  intro m hm
  obtain ⟨d, rfl⟩ := Nat.le.dest hm
  induction d with
  | zero => exact e
  | succ d ih => exact if_pos (ih (by omega))
/-- f is on the way up from p -/
def zpaT (s : zS) (p f : Int) : Prop := ∃ n, zpa s p n = f
