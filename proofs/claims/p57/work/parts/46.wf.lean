set_option maxRecDepth 16384
/-! What is so of every state between calls. -/
def zWa (s : zS) : Prop := (0 ≤ s 2 0 ∧ s 2 0 ≤ 30) ∧ ∀ a, 0 ≤ a → a < s 2 0 → (0 ≤ s 3 a ∧ s 3 a < 4) ∧ (0 ≤ s 4 a ∧ s 4 a ≤ 5) ∧ (0 ≤ s 5 a ∧ s 5 a ≤ 255) ∧ (0 ≤ s 6 a ∧ s 6 a ≤ 255) ∧ (-1 ≤ s 7 a ∧ s 7 a < 4 ∧ s 7 a ≠ s 3 a) ∧ (1 ≤ s 8 a ∧ s 8 a ≤ 255) ∧ (0 ≤ s 9 a ∧ s 9 a ≤ 7) ∧ (0 ≤ s 10 a ∧ s 10 a ≤ 1) ∧ (0 ≤ s 11 a ∧ s 11 a ≤ 1) ∧ (s 6 a = 0 ↔ s 7 a = -1)
def zWk (s : zS) : Prop := ∀ k, 0 ≤ k → k < 12 → (-1 ≤ s 12 k ∧ s 12 k < s 2 0) ∧ (-1 ≤ s 13 k ∧ s 13 k < s 2 0) ∧ (0 ≤ s 14 k ∧ s 14 k ≤ 100) ∧ (s 13 k = -1 ↔ s 14 k = 0) ∧ (s 12 k ≠ -1 → s 3 (s 12 k) = k / 3) ∧ (s 13 k ≠ -1 → s 3 (s 13 k) = k / 3)
def zWc (s : zS) : Prop := (0 ≤ s 19 0 ∧ s 19 0 ≤ 40) ∧ ∀ c, 0 ≤ c → c < 800 → -1 ≤ s 18 c ∧ s 18 c < s 2 0 ∧ (s 18 c ≠ -1 → s 3 (s 18 c) = c / 200)
def zWd (s : zS) : Prop := (0 ≤ s 1 0 ∧ s 1 0 ≤ 20000) ∧ (∀ x, 0 ≤ x → x < 32 → 0 ≤ s 20 x ∧ s 20 x ≤ 11 * s 1 0) ∧ ∀ v, 0 ≤ v → v < 4 → (0 ≤ s 21 v ∧ s 21 v ≤ 255) ∧ (0 ≤ s 22 v ∧ s 22 v ≤ 7) ∧ (-1 ≤ s 23 v ∧ s 23 v ≤ 7) ∧ (0 ≤ s 24 v ∧ s 24 v ≤ 5 * s 1 0) ∧ (0 ≤ s 50 v ∧ s 50 v ≤ 1)
def zWp (s : zS) : Prop := (0 ≤ s 25 0 ∧ s 25 0 ≤ 6) ∧ (∀ p, 0 ≤ p → p < s 25 0 → 0 ≤ s 26 p ∧ s 26 p ≤ 10) ∧ (∀ x, -2147483648 ≤ s 28 x ∧ s 28 x < 2147483648 ∧ -2147483648 ≤ s 29 x ∧ s 29 x < 2147483648) ∧
  ∀ p x, 0 ≤ p → p < s 25 0 → 0 ≤ x → x < s 26 p → (0 ≤ s 27 (10 * p + x) ∧ s 27 (10 * p + x) ≤ 6) ∧ (s 27 (10 * p + x) ≠ 5 → 0 ≤ s 28 (10 * p + x) ∧ s 28 (10 * p + x) ≤ 1000) ∧ (s 27 (10 * p + x) = 3 → s 28 (10 * p + x) ≤ 5) ∧ (s 27 (10 * p + x) ≠ 1 → s 27 (10 * p + x) ≠ 3 → s 27 (10 * p + x) ≠ 5 → s 28 (10 * p + x) ≤ 2) ∧ (s 27 (10 * p + x) = 0 → 1 ≤ s 29 (10 * p + x) ∧ s 29 (10 * p + x) ≤ 100)
def zWr (s : zS) : Prop := (0 ≤ s 30 0 ∧ s 30 0 ≤ 20) ∧ 0 ≤ s 39 0 ∧ ∀ r, 0 ≤ r → r < s 30 0 → (0 ≤ s 31 r ∧ s 31 r < s 2 0) ∧ (0 ≤ s 32 r ∧ s 32 r < s 25 0) ∧ (0 ≤ s 33 r ∧ s 33 r ≤ 4) ∧ (0 ≤ s 34 r ∧ s 34 r ≤ s 26 (s 32 r)) ∧ (s 33 r ≤ 1 → s 34 r < s 26 (s 32 r)) ∧ (0 ≤ s 35 r ∧ s 35 r ≤ s 1 0) ∧ (0 ≤ s 36 r ∧ s 36 r ≤ 63) ∧ (0 ≤ s 37 r ∧ s 37 r ≤ 1) ∧ (0 ≤ s 38 r ∧ s 38 r ≤ 1) ∧ (-1 ≤ s 40 r ∧ s 40 r < s 58 0) ∧
  ∀ g, 0 ≤ g → g < 3 → (0 ≤ s 41 (3 * r + g) ∧ s 41 (3 * r + g) ≤ 1) ∧ (s 41 (3 * r + g) = 1 → -1 ≤ s 42 (3 * r + g) ∧ s 42 (3 * r + g) < s 2 0 ∧ s 42 (3 * r + g) ≠ s 31 r ∧ (s 42 (3 * r + g) ≠ -1 → s 3 (s 42 (3 * r + g)) = s 3 (s 31 r)))
def zWz (s : zS) : Prop := (0 ≤ s 51 0 ∧ s 51 0 ≤ 0) ∧ (∀ x, 0 ≤ x → x < s 51 0 → (0 ≤ s 52 x ∧ s 52 x ≤ 2) ∧ (0 ≤ s 53 x ∧ s 53 x ≤ 20000) ∧ (0 ≤ s 54 x ∧ s 54 x ≤ 20000) ∧ (1 ≤ s 55 x ∧ s 55 x ≤ 3)) ∧ (∀ x, 0 ≤ x → x < 9 → 0 ≤ s 56 x ∧ s 56 x ≤ 1) ∧ ∀ x, 0 ≤ x → x < 3 → 0 ≤ s 57 x ∧ s 57 x ≤ 8
def zWt (s : zS) : Prop := (0 ≤ s 58 0 ∧ s 58 0 ≤ 0) ∧ ∀ t, 0 ≤ t → t < s 58 0 → (1 ≤ s 59 t ∧ s 59 t ≤ 20000) ∧ (-1 ≤ s 60 t ∧ s 60 t ≤ 20)
def zWg (s : zS) : Prop := (∀ f, 0 ≤ f → f < 8 → (0 ≤ s 61 f ∧ s 61 f ≤ 100) ∧ (-1 ≤ s 62 f ∧ s 62 f ≤ 7) ∧ (0 ≤ s 63 f ∧ s 63 f ≤ 1) ∧ (0 ≤ s 64 f ∧ s 64 f ≤ s 1 0) ∧ (0 ≤ s 65 f ∧ s 65 f ≤ 4) ∧ ∀ x, 0 ≤ x → x < s 65 f → (0 ≤ s 66 (4 * f + x) ∧ s 66 (4 * f + x) ≤ 2) ∧ (0 ≤ s 67 (4 * f + x) ∧ s 67 (4 * f + x) ≤ 1) ∧ (0 ≤ s 68 (4 * f + x) ∧ s 68 (4 * f + x) ≤ 6) ∧ (0 ≤ s 69 (4 * f + x) ∧ s 69 (4 * f + x) ≤ 100)) ∧ ∀ c, 0 ≤ c → c < 200 → 0 ≤ s 70 c ∧ s 70 c ≤ 6
def zWe (s : zS) : Prop := (0 ≤ s 71 0 ∧ s 71 0 ≤ 8) ∧ ∀ e, 0 ≤ e → e < s 71 0 → (0 ≤ s 72 e ∧ s 72 e ≤ 2) ∧ (0 ≤ s 73 e ∧ s 73 e ≤ 7) ∧ (0 ≤ s 74 e ∧ s 74 e ≤ 99) ∧ (s 74 e ≤ s 75 e ∧ s 75 e ≤ 99) ∧ (2 ≤ s 76 e ∧ s 76 e ≤ 4) ∧ (0 ≤ s 77 e ∧ s 77 e ≤ 1)
def zWm (s : zS) : Prop := (0 ≤ s 46 0 ∧ s 46 0 ≤ 600) ∧ ∀ w, 0 ≤ w → w < 24 → (0 ≤ s 47 w ∧ s 47 w ≤ s 46 0) ∧ ∀ x, 0 ≤ x → x < s 47 w → (0 ≤ s 48 (600 * w + x) ∧ s 48 (600 * w + x) ≤ 1) ∧ (0 ≤ s 49 (600 * w + x) ∧ s 49 (600 * w + x) ≤ 60000)
/-- no flag is its own parent's parent -/
def zac (s : zS) : Prop := ∃ key : Int → Int, ∀ f, 0 ≤ f → f < 8 → s 62 f ≠ -1 → key (s 62 f) < key f
/-- at most one release of an artefact is under way; the sessions are counted -/
def zWq (s : zS) : Prop := (∀ r r', 0 ≤ r → r < r' → r' < s 30 0 → s 31 r = s 31 r' → 1 < s 33 r ∨ 1 < s 33 r') ∧ s 19 0 = zcnt (fun c => s 18 c ≠ -1) 800
/-- what is not there yet is as at the start -/
def zWn (s : zS) : Prop := (∀ p, s 25 0 ≤ p → p < 6 → s 26 p = 0) ∧ (∀ r, s 30 0 ≤ r → r < 20 → s 33 r = 0 ∧ s 34 r = 0 ∧ s 36 r = 0 ∧ s 37 r = 0 ∧ s 38 r = 0 ∧ ∀ g, 0 ≤ g → g < 3 → s 41 (3 * r + g) = 0) ∧ (∀ e, s 71 0 ≤ e → e < 8 → s 77 e = 0) ∧ zWq s
def zWx (s : zS) : Prop := (0 ≤ s 43 0 ∧ s 43 0 ≤ 1) ∧ (0 ≤ s 44 0 ∧ s 44 0 ≤ 2) ∧ (s 43 0 = 1 → s 44 0 = 0) ∧ zac s ∧ zWn s
def zWf (s : zS) : Prop := zWa s ∧ zWk s ∧ zWc s ∧ zWd s ∧ zWp s ∧ zWr s ∧ zWz s ∧ zWt s ∧ zWg s ∧ zWe s ∧ zWm s ∧ zWx s

