set_option maxRecDepth 16384
/-! Loops; truth as 0 and 1; there is one between; how many. -/
def zbo (b : Int) (P : Prop) : Prop := (b = 1 ∧ P) ∨ (b = 0 ∧ ¬ P)
theorem zbo.cg {b : Int} {P Q : Prop} (h : zbo b P) (e : P ↔ Q) : zbo b Q := h.imp (fun z => ⟨z.1, e.mp z.2⟩) (fun z => ⟨z.1, fun q => z.2 (e.mpr q)⟩)
theorem zbo_1 {P : Prop} (h : P) : zbo 1 P := Or.inl ⟨rfl, h⟩
theorem zbo_0 {P : Prop} (h : ¬ P) : zbo 0 P := Or.inr ⟨rfl, h⟩
theorem zbo.r {b : Int} {P : Prop} (h : zbo b P) : 0 ≤ b ∧ b ≤ 1 := by rcases h with ⟨rfl, -⟩ | ⟨rfl, -⟩ <;> omega
theorem zbo.z {b : Int} {P : Prop} (h : zbo b P) : b = 0 ↔ ¬ P := by
  rcases h with ⟨rfl, h⟩ | ⟨rfl, h⟩
  · exact ⟨fun z => absurd z (by decide), fun z => absurd h z⟩
  · exact ⟨fun _ => h, fun _ => rfl⟩
theorem zbo.e {b : Int} {P : Prop} (h : zbo b P) : zE b = 0 ∨ zE b = 1 := by
  rcases h with ⟨rfl, -⟩ | ⟨rfl, -⟩
  · exact Or.inr rfl
  · exact Or.inl rfl
theorem zbo.u {b c : Int} {P : Prop} (h : zbo b P) (h' : zbo c P) : b = c := by
  rcases h with ⟨rfl, h⟩ | ⟨rfl, h⟩ <;> rcases h' with ⟨rfl, h'⟩ | ⟨rfl, h'⟩
  · rfl
  · exact absurd h h'
  · exact absurd h' h
  · rfl
def zxs (lo hi : Int) (P : Int → Prop) : Prop := ∃ r, lo ≤ r ∧ r < hi ∧ P r
theorem zxs_s {lo hi : Int} {P : Int → Prop} (h : lo ≤ hi) : zxs lo (hi + 1) P ↔ (zxs lo hi P ∨ P hi) := by
  constructor
  · rintro ⟨r, h1, h2, h3⟩
    by_cases e : r = hi
    · subst e; exact Or.inr h3
    · exact Or.inl ⟨r, h1, by omega, h3⟩
  · rintro (⟨r, h1, h2, h3⟩ | h3)
    · exact ⟨r, h1, by omega, h3⟩
    · exact ⟨hi, h, by omega, h3⟩
theorem zxs_n {lo : Int} {P : Int → Prop} : ¬ zxs lo lo P := fun ⟨r, h1, h2, _⟩ => by omega
theorem zxs.cg {lo hi : Int} {P Q : Int → Prop} (h : ∀ r, lo ≤ r → r < hi → (P r ↔ Q r)) : zxs lo hi P ↔ zxs lo hi Q :=
  ⟨fun ⟨r, a, b, c⟩ => ⟨r, a, b, (h r a b).mp c⟩, fun ⟨r, a, b, c⟩ => ⟨r, a, b, (h r a b).mpr c⟩⟩
/-- how many of 0, .., n - 1 -/
noncomputable def zcn1 (P : Prop) : Int := @ite _ P (Classical.propDecidable P) 1 0
theorem zcn1_t {P : Prop} (h : P) : zcn1 P = 1 := if_pos h
theorem zcn1_f {P : Prop} (h : ¬ P) : zcn1 P = 0 := if_neg h
theorem zcn1_b {b : Int} {P : Prop} (h : zbo b P) : zcn1 P = b := by
  rcases h with ⟨rfl, h⟩ | ⟨rfl, h⟩
  · exact zcn1_t h
  · exact zcn1_f h
theorem zcn1_r (P : Prop) : 0 ≤ zcn1 P ∧ zcn1 P ≤ 1 := by
  by_cases h : P
  · rw [zcn1_t h]; omega
  · rw [zcn1_f h]; omega
theorem zcn1_cg {P Q : Prop} (h : P ↔ Q) : zcn1 P = zcn1 Q := by rw [propext h]
noncomputable def zcnt (P : Int → Prop) : Nat → Int
  | 0 => 0
  | n + 1 => zcnt P n + zcn1 (P n)
theorem zcnt_r (P : Int → Prop) : ∀ n : Nat, 0 ≤ zcnt P n ∧ zcnt P n ≤ n
  | 0 => ⟨Int.le_refl _, Int.le_refl _⟩
  | n + 1 => by
    have := zcnt_r P n
    have := zcn1_r (P n)
    show 0 ≤ zcnt P n + zcn1 (P n) ∧ zcnt P n + zcn1 (P n) ≤ _
    omega
theorem zcnt_cg {P Q : Int → Prop} : ∀ n : Nat, (∀ i : Int, 0 ≤ i → i < n → (P i ↔ Q i)) → zcnt P n = zcnt Q n
  | 0, _ => rfl
  | n + 1, h => by
    show zcnt P n + zcn1 (P n) = zcnt Q n + zcn1 (Q n)
    rw [zcnt_cg n (fun i a b => h i a (by omega)), zcn1_cg (h n (by omega) (by omega))]
theorem zcnt_0 {P : Int → Prop} : ∀ n : Nat, zcnt P n = 0 ↔ ¬ zxs 0 n P
  | 0 => ⟨fun _ => zxs_n, fun _ => rfl⟩
  | n + 1 => by
    show zcnt P n + zcn1 (P n) = 0 ↔ ¬ zxs 0 ((n : Int) + 1) P
    have h1 := zcnt_r P n
    have h2 := zcn1_r (P n)
    rw [zxs_s (by omega)]
    constructor
    · intro h
      rintro (z | z)
      · exact (zcnt_0 n).mp (by omega) z
      · rw [zcn1_t z] at h; omega
    · intro h
      rw [(zcnt_0 n).mpr (fun z => h (Or.inl z)), zcn1_f (fun z => h (Or.inr z))]
      rfl
/-- a loop from lo to N: what is so of its state as it goes, what of its end -/
theorem zloop {σ R : Type} {W : Nat → Int → σ → R} {lo N : Int} (Inv : Int → σ → Prop) (Post : R → Prop) (hend : ∀ n x, Inv N x → Post (W (n + 1) N x))
    (hst : ∀ n i x, lo ≤ i → i < N → Inv i x → Post (W (n + 1) i x) ∨ ∃ x', Inv (i + 1) x' ∧ W (n + 1) i x = W n (i + 1) x') : ∀ (m n : Nat) (i : Int) (x : σ), lo ≤ i → i + m = N → m < n → Inv i x → Post (W n i x) := by
  intro m
  induction m with
  | zero =>
    intro n i x h1 h2 h3 h4
    obtain ⟨n, rfl⟩ : ∃ n', n = n' + 1 := ⟨n - 1, by omega⟩
    have e : i = N := by omega
    subst e
    exact hend n x h4
  | succ m ih =>
    intro n i x h1 h2 h3 h4
    obtain ⟨n, rfl⟩ : ∃ n', n = n' + 1 := ⟨n - 1, by omega⟩
    rcases hst n i x h1 (by omega) h4 with h | ⟨x', h5, h6⟩
    · exact h
    · rw [h6]
      exact ih n (i + 1) x' (by omega) (by omega) (by omega) h5
/-- .. from 0, with the fuel that a loop has at its beginning -/
theorem zloop0 {σ R : Type} {W : Nat → Int → σ → R} {N : Int} (Inv : Int → σ → Prop) (Post : R → Prop) (x : σ) (h0 : Inv 0 x) (hN : 0 ≤ N) (hN2 : N < 1000) (hend : ∀ n x, Inv N x → Post (W (n + 1) N x))
    (hst : ∀ n i x, 0 ≤ i → i < N → Inv i x → Post (W (n + 1) i x) ∨ ∃ x', Inv (i + 1) x' ∧ W (n + 1) i x = W n (i + 1) x') : Post (W zN0 0 x) :=
  zloop (lo := 0) Inv Post hend hst N.toNat zN0 0 x (Int.le_refl _) (by omega) (by unfold zN0; omega) h0

