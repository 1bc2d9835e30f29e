set_option maxRecDepth 16384
/-! isOn, arm: both sides. -/
def zhas (s : zS) (c x : Int) : Int := if s 66 x = 0 then zrgf c else if s 66 x = 1 then c % 7 else s 70 c
def zmt (s : zS) (c x : Int) : Int := if s 67 x = 0 then (if zhas s c x = s 68 x then 1 else 0) else (if zhas s c x < s 68 x then 0 else 1)
def zoc (s : zS) (x : Int) : Int := if s 69 x = 1 then 100 else s 69 x
/-- the percentage, the last j rules of n looked at -/
def zpcR (s : zS) (f c n : Int) : Nat → Int
  | 0 => s 61 f
  | j + 1 => if zmt s c (4 * f + (n - 1 - j)) = 1 then zoc s (4 * f + (n - 1 - j)) else zpcR s f c n j
def zplc (f c : Int) : Int := (53 * c + 29 * f) % 100
def zpcT (s : zS) (f c : Int) : Int := zpcR s f c (s 65 f) (s 65 f).toNat
def zalo (s : zS) (f c : Int) : Int := if s 63 f = 0 then (if zplc f c < zpcT s f c then 1 else 0) else 0
def zonn (s : zS) (f c : Int) : Prop := ∀ m : Nat, zpa s f m ≠ -1 → zalo s (zpa s f m) c = 1
theorem zonn_e {s s' : zS} (e : ∀ j, j ≠ 0 → s' j = s j) {f c : Int} : zonn s' f c ↔ zonn s f c := by
  have h1 : ∀ x, zhas s' c x = zhas s c x := fun x => by
    unfold zhas
    rw [e 66 (by decide), e 70 (by decide)]
  have h2 : ∀ x, zmt s' c x = zmt s c x := fun x => by
    unfold zmt
    rw [h1, e 67 (by decide), e 68 (by decide)]
  have h3 : ∀ x, zoc s' x = zoc s x := fun x => by
    unfold zoc
    rw [e 69 (by decide)]
  have h4 : ∀ g n j, zpcR s' g c n j = zpcR s g c n j := fun g n j => by
    induction j with
    | zero =>
      show s' 61 g = s 61 g
      rw [e 61 (by decide)]
    | succ j ih =>
      show (if zmt s' c (4 * g + (n - 1 - j)) = 1 then zoc s' (4 * g + (n - 1 - j)) else zpcR s' g c n j) = (if zmt s c (4 * g + (n - 1 - j)) = 1 then zoc s (4 * g + (n - 1 - j)) else zpcR s g c n j)
      rw [h2, h3, ih]
  have h5 : ∀ g, zalo s' g c = zalo s g c := fun g => by
    unfold zalo zpcT
    rw [h4, e 63 (by decide), e 65 (by decide)]
  have h6 : ∀ n, zpa s' f n = zpa s f n := fun n => by
    induction n with
    | zero => rfl
    | succ n ih =>
      show (if zpa s' f n = -1 then -1 else s' 62 (zpa s' f n)) = (if zpa s f n = -1 then -1 else s 62 (zpa s f n))
      rw [ih, e 62 (by decide)]
  unfold zonn
  simp only [h5, h6]
theorem zhas_r {s : zS} (hG : zWg s) {c x : Int} (c0 : 0 ≤ c) (c1 : c < 200) : 0 ≤ zhas s c x ∧ zhas s c x ≤ 6 := by
  unfold zhas
  have h1 := zrgf_r c
  have h2 := hG.2 c c0 c1
  by_cases e1 : s 66 x = 0
  · rw [if_pos e1]; omega
  · rw [if_neg e1]
    by_cases e2 : s 66 x = 1
    · rw [if_pos e2]; omega
    · rw [if_neg e2]; exact h2
theorem zoc_r {s : zS} (hG : zWg s) {f x : Int} (f0 : 0 ≤ f) (f1 : f < 8) (x0 : 0 ≤ x) (x1 : x < s 65 f) : 0 ≤ zoc s (4 * f + x) ∧ zoc s (4 * f + x) ≤ 100 := by
  have h1 := ((hG.1 f f0 f1).2.2.2.2.2 x x0 x1).2.2.2
  unfold zoc
  by_cases e : s 69 (4 * f + x) = 1
  · rw [if_pos e]; omega
  · rw [if_neg e]; exact h1
theorem zpcR_r {s : zS} (hG : zWg s) {f c : Int} (f0 : 0 ≤ f) (f1 : f < 8) : ∀ j : Nat, (j : Int) ≤ s 65 f → 0 ≤ zpcR s f c (s 65 f) j ∧ zpcR s f c (s 65 f) j ≤ 100
  | 0, _ => (hG.1 f f0 f1).1
  | j + 1, hj => by
    have ih := zpcR_r (c := c) hG f0 f1 j (by omega)
    show 0 ≤ (if zmt s c (4 * f + (s 65 f - 1 - j)) = 1 then zoc s (4 * f + (s 65 f - 1 - j)) else zpcR s f c (s 65 f) j) ∧ (if zmt s c (4 * f + (s 65 f - 1 - j)) = 1 then zoc s (4 * f + (s 65 f - 1 - j)) else zpcR s f c (s 65 f) j) ≤ 100
    by_cases e : zmt s c (4 * f + (s 65 f - 1 - j)) = 1
    · rw [if_pos e]; exact zoc_r hG f0 f1 (by omega) (by omega)
    · rw [if_neg e]; exact ih
theorem zalo_b {s : zS} {f c : Int} : zalo s f c = 0 ∨ zalo s f c = 1 := by
  unfold zalo
  by_cases e1 : s 63 f = 0
  · rw [if_pos e1]
    by_cases e2 : zplc f c < zpcT s f c
    · rw [if_pos e2]; exact Or.inr rfl
    · rw [if_neg e2]; exact Or.inl rfl
  · rw [if_neg e1]; exact Or.inl rfl
theorem zplc_e {f c : Int} (f0 : 0 ≤ f) (f1 : f < 8) (c0 : 0 ≤ c) (c1 : c < 200) : ((((53 : Int32) * zE c) + ((29 : Int32) * zE f)) - (((53 : Int32) * zE c) + ((29 : Int32) * zE f)) / (100 : Int32) * (100 : Int32)) = zE (zplc f c) := by
  rw [zE_53, zE_29, zE_100, zE_mul, zE_mul, zE_add, zE_rem (by omega) (by omega) (by omega) (by omega)]
  rfl
theorem zlz_g {α : Type} {h : zH} {fi : Int32 → Option α} {k i : Nat} {n : Int} {q : zq} (e : q = some (k, i)) (hk : (ztg k == 9) = true) (h1 : zi h k i 1 = 1) (hn : (zln h k i : Int) = n) : zlz q h fi = fi (zE n) := by
  subst e
  show (if (ztg k == 9) = true then (if zi h k i 1 = 1 then fi (nI (zln h k i)) else none) else none) = _
  rw [if_pos hk, if_pos h1, zE_nI, hn]
theorem zonn_8 {s : zS} {f c : Int} {n : Nat} (e : zpa s f n = -1) (h : ∀ m : Nat, m < n → zpa s f m ≠ -1 → zalo s (zpa s f m) c = 1) : zonn s f c := fun m hm => by
  by_cases k : m < n
  · exact h m k hm
  · exact absurd (zpa_m e m (by omega)) hm
