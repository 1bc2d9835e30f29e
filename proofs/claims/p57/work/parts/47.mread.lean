set_option maxRecDepth 16384
/-! The model's methods that only read: artefacts. -/
/-- an element of a set of eight -/
abbrev zbt (x k : Int) : Prop := x.toNat.testBit k.toNat = true
theorem zbt_d1 : ∀ x, x < 256 → ∀ k, k < 8 → (((Int32.ofInt (x : Nat)) >>> ((Int32.ofInt (k : Nat)) &&& 31)) &&& 1) = (if Nat.testBit x k = true then 1 else 0) := by decide +kernel
theorem zbt_d2 : ∀ x, x < 256 → ∀ k, k < 8 → (((Int32.ofInt (x : Nat)) &&& ((1 : Int32) <<< ((Int32.ofInt (k : Nat)) &&& 31))) = 0 ↔ ¬ Nat.testBit x k = true) := by decide +kernel
theorem zbt_m {x k : Int} (h1 : 0 ≤ x) (h2 : x ≤ 255) (h3 : 0 ≤ k) (h4 : k ≤ 7) : ∃ b, zbo b (zbt x k) ∧ ((zE x >>> (zE k &&& 31)) &&& zE 1) = zE b := by
  have e := zbt_d1 x.toNat (by omega) k.toNat (by omega)
  rw [Int.toNat_of_nonneg h1, Int.toNat_of_nonneg h3] at e
  by_cases hb : Nat.testBit x.toNat k.toNat = true
  · rw [if_pos hb] at e
    exact ⟨1, zbo_1 hb, e⟩
  · rw [if_neg hb] at e
    exact ⟨0, zbo_0 hb, e⟩
theorem zbt_c {x k : Int} (h1 : 0 ≤ x) (h2 : x ≤ 255) (h3 : 0 ≤ k) (h4 : k ≤ 7) : ((zE x &&& (zE 1 <<< (zE k &&& 31))) = zE 0) = ¬ zbt x k := by
  have e := zbt_d2 x.toNat (by omega) k.toNat (by omega)
  rw [Int.toNat_of_nonneg h1, Int.toNat_of_nonneg h3] at e
  exact propext e
def zlk (x y : Int) : Prop := ¬ (zE x &&& (zE y ^^^ zE (-1))) = zE 0
/-- the reason why both may not live together -/
def zrs (s : zS) (a b v : Int) : Prop :=
  (s 3 a = s 3 b ∧ ((¬ zbt (s 8 a) (s 9 b) ∧ v = 1) ∨ (zbt (s 8 a) (s 9 b) ∧ ¬ zbt (s 8 b) (s 9 a) ∧ v = 2) ∨ (zbt (s 8 a) (s 9 b) ∧ zbt (s 8 b) (s 9 a) ∧ v = 0))) ∨
  (s 3 a ≠ s 3 b ∧ (((s 7 a = s 3 b ∧ zlk (s 6 a) (s 5 b)) ∧ v = 3) ∨ (¬ (s 7 a = s 3 b ∧ zlk (s 6 a) (s 5 b)) ∧ (s 7 b = s 3 a ∧ zlk (s 6 b) (s 5 a)) ∧ v = 4) ∨ (¬ (s 7 a = s 3 b ∧ zlk (s 6 a) (s 5 b)) ∧ ¬ (s 7 b = s 3 a ∧ zlk (s 6 b) (s 5 a)) ∧ v = 0)))
theorem zrs_r {s : zS} {a b v : Int} (h : zrs s a b v) : 0 ≤ v ∧ v ≤ 4 := by
  rcases h with ⟨-, ⟨-, e⟩ | ⟨-, -, e⟩ | ⟨-, -, e⟩⟩ | ⟨-, ⟨-, e⟩ | ⟨-, -, e⟩ | ⟨-, -, e⟩⟩ <;> omega
/-- live: stable or a candidate in a ring, or in a session -/
def zlvR (s : zS) (a w : Int) (r : Int) : Prop := s 12 (3 * s 3 a + r) = a ∧ r ≠ w ∨ s 13 (3 * s 3 a + r) = a
def zlvC (s : zS) (a c : Int) : Prop := s 18 (200 * s 3 a + c) = a
def zlv (s : zS) (a w : Int) : Prop := zxs 0 3 (zlvR s a w) ∨ zxs 0 200 (zlvC s a)
