set_option maxRecDepth 16384
/-! isOn, arm: both sides. -/
def zhas (s : zS) (c x : Int) : Int := if s 66 x = 0 then zrgf c else if s 66 x = 1 then c % 7 else s 70 c
def zmt (s : zS) (c x : Int) : Int := if s 67 x = 0 then (if zhas s c x = s 68 x then 1 else 0) else (if zhas s c x < s 68 x then 0 else 1)
def zoc (s : zS) (x : Int) : Int := if s 69 x = 1 then 100 else s 69 x
/-- the percentage, the last j rules of n looked at -/
def zpcR (s : zS) (f c n : Int) : Nat → Int
  | 0 => s 61 f
  | j + 1 => if zmt s c (4 * f + (n - 1 - j)) = 1 then zoc s (4 * f + (n - 1 - j)) else zpcR s f c n j
def zplc (f c : Int) : Int := (53 * c + 29 * f) % 100
def zpcT (s : zS) (f c : Int) : Int := zpcR s f c (s 65 f) (s 65 f).toNat
def zalo (s : zS) (f c : Int) : Int := if s 63 f = 0 then (if zplc f c < zpcT s f c then 1 else 0) else 0
def zonn (s : zS) (f c : Int) : Prop := ∀ m : Nat, zpa s f m ≠ -1 → zalo s (zpa s f m) c = 1
theorem zonn_e {s s' : zS} (e : ∀ j, j ≠ 0 → s' j = s j) {f c : Int} : zonn s' f c ↔ zonn s f c := by
  have h1 : ∀ x, zhas s' c x = zhas s c x := fun x => by
    unfold zhas
    rw [e 66 (by decide), e 70 (by decide)]
  have h2 : ∀ x, zmt s' c x = zmt s c x := fun x => by
    unfold zmt
    rw [h1, e 67 (by decide), e 68 (by decide)]
  have h3 : ∀ x, zoc s' x = zoc s x := fun x => by
    unfold zoc
    rw [e 69 (by decide)]
  have h4 : ∀ g n j, zpcR s' g c n j = zpcR s g c n j := fun g n j => by
    induction j with
    | zero =>
      show s' 61 g = s 61 g
      rw [e 61 (by decide)]
    | succ j ih =>
      show (if zmt s' c (4 * g + (n - 1 - j)) = 1 then zoc s' (4 * g + (n - 1 - j)) else zpcR s' g c n j) = (if zmt s c (4 * g + (n - 1 - j)) = 1 then zoc s (4 * g + (n - 1 - j)) else zpcR s g c n j)
      rw [h2, h3, ih]
  have h5 : ∀ g, zalo s' g c = zalo s g c := fun g => by
    unfold zalo zpcT
    rw [h4, e 63 (by decide), e 65 (by decide)]
  have h6 : ∀ n, zpa s' f n = zpa s f n := fun n => by
    induction n with
    | zero => rfl
    | succ n ih =>
      show (if zpa s' f n = -1 then -1 else s' 62 (zpa s' f n)) = (if zpa s f n = -1 then -1 else s 62 (zpa s f n))
      rw [ih, e 62 (by decide)]
  unfold zonn
  simp only [h5, h6]
theorem zhas_r {s : zS} (hG : zWg s) {c x : Int} (c0 : 0 ≤ c) (c1 : c < 200) : 0 ≤ zhas s c x ∧ zhas s c x ≤ 6 := by
  unfold zhas
  have h1 := zrgf_r c
  have h2 := hG.2 c c0 c1
  by_cases e1 : s 66 x = 0
  · rw [if_pos e1]; omega
  · rw [if_neg e1]
    by_cases e2 : s 66 x = 1
    · rw [if_pos e2]; omega
    · rw [if_neg e2]; exact h2
theorem zoc_r {s : zS} (hG : zWg s) {f x : Int} (f0 : 0 ≤ f) (f1 : f < 8) (x0 : 0 ≤ x) (x1 : x < s 65 f) : 0 ≤ zoc s (4 * f + x) ∧ zoc s (4 * f + x) ≤ 100 := by
  have h1 := ((hG.1 f f0 f1).2.2.2.2.2 x x0 x1).2.2.2
  unfold zoc
  by_cases e : s 69 (4 * f + x) = 1
  · rw [if_pos e]; omega
  · rw [if_neg e]; exact h1
theorem zpcR_r {s : zS} (hG : zWg s) {f c : Int} (f0 : 0 ≤ f) (f1 : f < 8) : ∀ j : Nat, (j : Int) ≤ s 65 f → 0 ≤ zpcR s f c (s 65 f) j ∧ zpcR s f c (s 65 f) j ≤ 100
  | 0, _ => (hG.1 f f0 f1).1
  | j + 1, hj => by
    have ih := zpcR_r (c := c) hG f0 f1 j (by omega)
    show 0 ≤ (if zmt s c (4 * f + (s 65 f - 1 - j)) = 1 then zoc s (4 * f + (s 65 f - 1 - j)) else zpcR s f c (s 65 f) j) ∧ (if zmt s c (4 * f + (s 65 f - 1 - j)) = 1 then zoc s (4 * f + (s 65 f - 1 - j)) else zpcR s f c (s 65 f) j) ≤ 100
    by_cases e : zmt s c (4 * f + (s 65 f - 1 - j)) = 1
    · rw [if_pos e]; exact zoc_r hG f0 f1 (by omega) (by omega)
    · rw [if_neg e]; exact ih
theorem zalo_b {s : zS} {f c : Int} : zalo s f c = 0 ∨ zalo s f c = 1 := by
  unfold zalo
  by_cases e1 : s 63 f = 0
  · rw [if_pos e1]
    by_cases e2 : zplc f c < zpcT s f c
    · rw [if_pos e2]; exact Or.inr rfl
    · rw [if_neg e2]; exact Or.inl rfl
  · rw [if_neg e1]; exact Or.inl rfl
theorem zplc_e {f c : Int} (f0 : 0 ≤ f) (f1 : f < 8) (c0 : 0 ≤ c) (c1 : c < 200) : ((((53 : Int32) * zE c) + ((29 : Int32) * zE f)) - (((53 : Int32) * zE c) + ((29 : Int32) * zE f)) / (100 : Int32) * (100 : Int32)) = zE (zplc f c) := by
  rw [zE_53, zE_29, zE_100, zE_mul, zE_mul, zE_add, zE_rem (by omega) (by omega) (by omega) (by omega)]
  rfl
theorem zlz_g {α : Type} {h : zH} {fi : Int32 → Option α} {k i : Nat} {n : Int} {q : zq} (e : q = some (k, i)) (hk : (ztg k == 9) = true) (h1 : zi h k i 1 = 1) (hn : (zln h k i : Int) = n) : zlz q h fi = fi (zE n) := by
  subst e
  show (if (ztg k == 9) = true then (if zi h k i 1 = 1 then fi (nI (zln h k i)) else none) else none) = _
  rw [if_pos hk, if_pos h1, zE_nI, hn]
theorem zc124 {h : zH} {s : zS} (hR : zCr h) (hX : zCX h s) (hG : zWg s) {f c x : Int} (f0 : 0 ≤ f) (f1 : f < 8) (x0 : 0 ≤ x) (x1 : x < s 65 f) (c0 : 0 ≤ c) (c1 : c < 200) : zm124 (some (12, 0)) (zE c) (zE (s 66 (4 * f + x))) h = some (.inl (zE (zhas s c (4 * f + x))), h) := by
  have h1 := ((hG.1 f f0 f1).2.2.2.2.2 x x0 x1).1
  unfold zhas
  by_cases e1 : s 66 (4 * f + x) = 0
  · simp (discharger := omega) only [zm124, zE_0, zE_1, zE_2, zE_3, zE_4, zE_5, zE_6, zE_7, zE_8, zE_9, zE_10, zE_11, zE_12, zE_13, zE_14, zE_neg, e1, if_true, zc135, ↓zb_s]
  · by_cases e2 : s 66 (4 * f + x) = 1
    · simp (discharger := omega) only [zm124, zE_0, zE_1, zE_2, zE_3, zE_4, zE_5, zE_6, zE_7, zE_8, zE_9, zE_10, zE_11, zE_12, zE_13, zE_14, zE_neg, e2, zE_inj, if_true]
      rw [if_neg (by decide), if_neg (by decide), zE_rem (by omega) (by omega) (by omega) (by omega)]
    · simp (discharger := omega) only [zm124, zE_0, zE_1, zE_2, zE_3, zE_4, zE_5, zE_6, zE_7, zE_8, zE_9, zE_10, zE_11, zE_12, zE_13, zE_14, zE_neg, zE_inj, e1, e2, if_false, ↓zo_12]
      exact zri_s (zCr10 hR) rfl hX.1.2.2 c0 c1 (by omega) (hX.2.2 c c0 c1)
theorem zc16 {h : zH} {s : zS} {f c x : Int} {i : Nat} (hG : zWg s) (f0 : 0 ≤ f) (f1 : f < 8) (x0 : 0 ≤ x) (x1 : x < s 65 f) (c0 : 0 ≤ c) (c1 : c < 200) (g1 : zi h 6 i 1 = zE (s 67 (4 * f + x))) (g2 : zi h 6 i 2 = zE (s 68 (4 * f + x))) : zm16 (some (6, i)) (zE (zhas s c (4 * f + x))) h = some (.inl (zE (zmt s c (4 * f + x))), h) := by
  obtain ⟨h1, h2, h3, h4⟩ := (hG.1 f f0 f1).2.2.2.2.2 x x0 x1
  have hr := zhas_r (x := 4 * f + x) hG c0 c1
  unfold zmt
  by_cases e1 : s 67 (4 * f + x) = 0
  · by_cases e2 : zhas s c (4 * f + x) = s 68 (4 * f + x)
    · simp (discharger := omega) only [zm16, ↓zo_6, g1, g2, zE_0, zE_1, zE_2, zE_3, zE_4, zE_5, zE_6, zE_7, zE_8, zE_9, zE_10, zE_11, zE_12, zE_13, zE_14, zE_neg, e1, if_true, e2]
    · simp (discharger := omega) only [zm16, ↓zo_6, g1, g2, zE_0, zE_1, zE_2, zE_3, zE_4, zE_5, zE_6, zE_7, zE_8, zE_9, zE_10, zE_11, zE_12, zE_13, zE_14, zE_neg, e1, if_true, zE_inj, e2, if_false]
  · by_cases e2 : zhas s c (4 * f + x) < s 68 (4 * f + x)
    · simp (discharger := omega) only [zm16, ↓zo_6, g1, g2, zE_0, zE_1, zE_2, zE_3, zE_4, zE_5, zE_6, zE_7, zE_8, zE_9, zE_10, zE_11, zE_12, zE_13, zE_14, zE_neg, zE_inj, e1, if_false, zE_lt, e2, if_true]
    · simp (discharger := omega) only [zm16, ↓zo_6, g1, g2, zE_0, zE_1, zE_2, zE_3, zE_4, zE_5, zE_6, zE_7, zE_8, zE_9, zE_10, zE_11, zE_12, zE_13, zE_14, zE_neg, zE_inj, e1, if_false, zE_lt, e2]
theorem zc123 {h : zH} {f c p : Int} (f0 : 0 ≤ f) (f1 : f < 8) (c0 : 0 ≤ c) (c1 : c < 200) (p0 : 0 ≤ p) (p1 : p ≤ 100) : zm123 (zE f) (zE c) (zE p) h = some (.inl (zE (if zplc f c < p then 1 else 0)), h) := by
  have hp : 0 ≤ zplc f c ∧ zplc f c < 100 := by unfold zplc; omega
  rw [zm123, zplc_e f0 f1 c0 c1]
  by_cases e : p ≤ zplc f c
  · rw [if_neg (by omega : ¬ zplc f c < p)]
    simp (discharger := omega) only [zE_le, e, if_true, zE_0, zE_1, zE_2, zE_3, zE_4, zE_5, zE_6, zE_7, zE_8, zE_9, zE_10, zE_11, zE_12, zE_13, zE_14, zE_neg]
  · rw [if_pos (by omega : zplc f c < p)]
    simp (discharger := omega) only [zE_le, e, if_false, zE_0, zE_1, zE_2, zE_3, zE_4, zE_5, zE_6, zE_7, zE_8, zE_9, zE_10, zE_11, zE_12, zE_13, zE_14, zE_neg]
theorem zc122 {h : zH} {s : zS} (hR : zCr h) (hC : zCG h s) (hX : zCX h s) (hG : zWg s) {f c : Int} (f0 : 0 ≤ f) (f1 : f < 8) (c0 : 0 ≤ c) (c1 : c < 200) : zm122 (some (12, 0)) (zE f) (zE c) h = some (.inl (zE (if zplc f c < zpcT s f c then 1 else 0)), h) := by
  obtain ⟨g1, g2, g3, g4, g5, g6⟩ := hG.1 f f0 f1
  have hp : 0 ≤ zplc f c ∧ zplc f c < 100 := by unfold zplc; omega
  have z1 : ¬ zE 1 = zE 0 := by decide
  have hl := zCgN hC f0 f1
  simp (discharger := omega) only [zm122, ↓zo_12, ↓zLFa hR hC, ↓zo_2, ↓zlet_s, zCg0 hC]
  rw [zE_0]
  refine zloop0 (W := fun n i (_ : Unit) => zm122_8 zm122_44 n (some (12, 0)) (zE f) (zE c) (some (20, f.toNat)) (zE i) h) (N := s 65 f) (fun i _ => zpcT s f c = zpcR s f c (s 65 f) (s 65 f - i).toNat) (fun r => r = some (.inl (zE (if zplc f c < zpcT s f c then 1 else 0)), h)) () ?_ g5.1 (by omega) ?_ ?_
  · show zpcR s f c (s 65 f) (s 65 f).toNat = _
    rw [show s 65 f - 0 = s 65 f by omega]
  · intro n _ hb
    have e0 : zpcT s f c = s 61 f := by
      rw [hb, show s 65 f - s 65 f = 0 by omega]
      rfl
    simp (discharger := omega) only [zm122_8, zm122_44, ↓zlz_g rfl rfl (zCgO hC f0 f1) hl, Int32.le_refl, if_true, ↓zo_12, ↓zLFa hR hC, ↓zo_2, zCg1 hC, zc123, ↓zb_s, zE_0, zE_1, zE_2, zE_3, zE_4, zE_5, zE_6, zE_7, zE_8, zE_9, zE_10, zE_11, zE_12, zE_13, zE_14, zE_neg]
    rw [e0]
    have hb1 : (if zplc f c < s 61 f then 1 else 0 : Int) = 0 ∨ (if zplc f c < s 61 f then 1 else 0 : Int) = 1 := by
      by_cases e : zplc f c < s 61 f
      · exact Or.inr (if_pos e)
      · exact Or.inl (if_neg e)
    exact zif_s (zE_01 hb1)
  · intro n i _ h1 h2 hb
    have h3 : ¬ s 65 f ≤ i := by omega
    obtain ⟨j, j1, j2, j3, j4, j5⟩ := zCgS hC f0 f1 i h1 h2
    have hz : zpcT s f c = if zmt s c (4 * f + i) = 1 then zoc s (4 * f + i) else zpcR s f c (s 65 f) (s 65 f - (i + 1)).toNat := by
      rw [hb, show (s 65 f - i).toNat = (s 65 f - (i + 1)).toNat + 1 by omega]
      show (if zmt s c (4 * f + (s 65 f - 1 - ((s 65 f - (i + 1)).toNat : Int))) = 1 then _ else _) = _
      rw [show s 65 f - 1 - ((s 65 f - (i + 1)).toNat : Int) = i by omega]
    have e1 : ∀ fa : zq → zRs Int32, zlg (some (20, f.toNat)) (zE i) h fa = fa (some (6, j)) := fun fa => zlg_s rfl rfl (zCgO hC f0 f1) h1 (by omega) (by omega) j1
    have hw := g6 i h1 h2
    have e2 : zm16 (some (6, j)) (zE (zhas s c (4 * f + i))) h = _ := zc16 hG f0 f1 h1 h2 c0 c1 j3 j4
    have hmt : zmt s c (4 * f + i) = 0 ∨ zmt s c (4 * f + i) = 1 := by
      unfold zmt
      by_cases c1 : s 67 (4 * f + i) = 0
      · rw [if_pos c1]
        by_cases c2 : zhas s c (4 * f + i) = s 68 (4 * f + i)
        · exact Or.inr (if_pos c2)
        · exact Or.inl (if_neg c2)
      · rw [if_neg c1]
        by_cases c2 : zhas s c (4 * f + i) < s 68 (4 * f + i)
        · exact Or.inl (if_pos c2)
        · exact Or.inr (if_neg c2)
    rcases hmt with hm | hm
    · rw [hm] at e2 hz
      rw [if_neg (by decide)] at hz
      refine Or.inr ⟨(), hz, ?_⟩
      simp (discharger := omega) only [zm122_8, ↓zlz_g rfl rfl (zCgO hC f0 f1) hl, zE_le, h3, if_false, ↓e1, ↓zo_6, ↓zo_12, j2, zc124 hR hX hG f0 f1, ↓zb_s, e2, zE_0, zE_1, zE_2, zE_3, zE_4, zE_5, zE_6, zE_7, zE_8, zE_9, zE_10, zE_11, zE_12, zE_13, zE_14, zE_neg, if_true, ↓zlet_s, zE_add]
    · rw [hm] at e2 hz
      rw [if_pos rfl] at hz
      refine Or.inl ?_
      have hy : 0 ≤ s 69 (4 * f + i) ∧ s 69 (4 * f + i) ≤ 100 := hw.2.2.2
      by_cases k1 : s 69 (4 * f + i) = 1
      · have : zoc s (4 * f + i) = 100 := if_pos k1
        rw [hz, this, if_pos (by omega)]
        simp (discharger := omega) only [zm122_8, ↓zlz_g rfl rfl (zCgO hC f0 f1) hl, zE_le, h3, if_false, ↓e1, ↓zo_6, ↓zo_12, j2, zc124 hR hX hG f0 f1, ↓zb_s, e2, zE_0, zE_1, zE_2, zE_3, zE_4, zE_5, zE_6, zE_7, zE_8, zE_9, zE_10, zE_11, zE_12, zE_13, zE_14, zE_neg, z1, j5, k1, if_true]
      · have : zoc s (4 * f + i) = s 69 (4 * f + i) := if_neg k1
        rw [hz, this]
        by_cases k2 : s 69 (4 * f + i) = 0
        · rw [k2, if_neg (by omega)]
          simp (discharger := omega) only [zm122_8, ↓zlz_g rfl rfl (zCgO hC f0 f1) hl, zE_le, h3, if_false, ↓e1, ↓zo_6, ↓zo_12, j2, zc124 hR hX hG f0 f1, ↓zb_s, e2, zE_0, zE_1, zE_2, zE_3, zE_4, zE_5, zE_6, zE_7, zE_8, zE_9, zE_10, zE_11, zE_12, zE_13, zE_14, zE_neg, z1, j5, k2, zE_inj]
          rfl
        · have e5 := zc123 (h := h) f0 f1 c0 c1 hy.1 hy.2
          by_cases k3 : zplc f c < s 69 (4 * f + i)
          · rw [if_pos k3] at e5 ⊢
            simp (discharger := omega) only [zm122_8, ↓zlz_g rfl rfl (zCgO hC f0 f1) hl, zE_le, h3, if_false, ↓e1, ↓zo_6, ↓zo_12, j2, zc124 hR hX hG f0 f1, ↓zb_s, e2, zE_0, zE_1, zE_2, zE_3, zE_4, zE_5, zE_6, zE_7, zE_8, zE_9, zE_10, zE_11, zE_12, zE_13, zE_14, zE_neg, z1, j5, zE_inj, k1, k2, e5]
          · rw [if_neg k3] at e5 ⊢
            simp (discharger := omega) only [zm122_8, ↓zlz_g rfl rfl (zCgO hC f0 f1) hl, zE_le, h3, if_false, ↓e1, ↓zo_6, ↓zo_12, j2, zc124 hR hX hG f0 f1, ↓zb_s, e2, zE_0, zE_1, zE_2, zE_3, zE_4, zE_5, zE_6, zE_7, zE_8, zE_9, zE_10, zE_11, zE_12, zE_13, zE_14, zE_neg, z1, j5, zE_inj, k1, k2, e5, if_true]
theorem zonn_8 {s : zS} {f c : Int} {n : Nat} (e : zpa s f n = -1) (h : ∀ m : Nat, m < n → zpa s f m ≠ -1 → zalo s (zpa s f m) c = 1) : zonn s f c := fun m hm => by
  by_cases k : m < n
  · exact h m k hm
  · exact absurd (zpa_m e m (by omega)) hm
theorem zc121 {h : zH} {s : zS} (hR : zCr h) (hC : zCG h s) (hX : zCX h s) (hG : zWg s) (hx : zac s) {f c : Int} (f0 : 0 ≤ f) (f1 : f < 8) (c0 : 0 ≤ c) (c1 : c < 200) : ∃ b, zbo b (zonn s f c) ∧ zm121 (some (12, 0)) (zE f) (zE c) h = some (.inl (zE b), h) := by
  have hp : ∀ f, 0 ≤ f → f < 8 → -1 ≤ s 62 f ∧ s 62 f ≤ 7 := fun f a b => (hG.1 f a b).2.1
  have p0 : -1 ≤ f ∧ f ≤ 7 := by omega
  have h8 := zpa_8 hx hp p0
  have z1 : ¬ zE 1 = zE 0 := by decide
  rw [zm121, zE_0]
  refine zloop0 (W := fun n i x => zm121_4 n (some (12, 0)) (zE c) (zE x) (zE i) h) (N := 8) (fun i x => x = zpa s f i.toNat ∧ ∀ m : Nat, (m : Int) < i → zpa s f m ≠ -1 → zalo s (zpa s f m) c = 1) (fun r => ∃ b, zbo b (zonn s f c) ∧ r = some (.inl (zE b), h)) f ⟨rfl, fun j hj => by omega⟩ (by omega) (by omega) ?_ ?_
  · rintro n x ⟨rfl, hb⟩
    refine ⟨1, zbo_1 (zonn_8 h8 fun m hm => hb m (by omega)), ?_⟩
    simp only [zm121_4, zE_8, Int32.le_refl, if_true, zE_1]
  · rintro n i x h1 h2 ⟨rfl, hb⟩
    have h3 : ¬ (8 : Int) ≤ i := by omega
    have hr := zpa_r hp p0 i.toNat
    by_cases e1 : zpa s f i.toNat = -1
    · refine Or.inl ⟨1, zbo_1 (zonn_8 e1 fun m hm => hb m (by omega)), ?_⟩
      simp (discharger := omega) only [zm121_4, zE_0, zE_1, zE_2, zE_3, zE_4, zE_5, zE_6, zE_7, zE_8, zE_9, zE_10, zE_11, zE_12, zE_13, zE_14, zE_neg, zE_le, h3, if_false, e1, if_true]
    · have hg := (hG.1 (zpa s f i.toNat) (by omega) (by omega)).2.2.1
      by_cases e2 : s 63 (zpa s f i.toNat) = 0
      · have e5 := zc122 hR hC hX hG (f := zpa s f i.toNat) (c := c) (by omega) (by omega) c0 c1
        by_cases e4 : zplc (zpa s f i.toNat) c < zpcT s (zpa s f i.toNat) c
        · have ha : zalo s (zpa s f i.toNat) c = 1 := by
            unfold zalo
            rw [if_pos e2, if_pos e4]
          rw [if_pos e4] at e5
          have e3 : zpa s f (i.toNat + 1) = s 62 (zpa s f i.toNat) := if_neg e1
          refine Or.inr ⟨zpa s f (i.toNat + 1), ⟨by rw [show (i + 1).toNat = i.toNat + 1 by omega], fun j hj hj2 => ?_⟩, ?_⟩
          · by_cases c : (j : Int) < i
            · exact hb j c hj2
            · rw [show j = i.toNat by omega]; exact ha
          · rw [e3]
            simp (discharger := omega) only [zm121_4, zE_0, zE_1, zE_2, zE_3, zE_4, zE_5, zE_6, zE_7, zE_8, zE_9, zE_10, zE_11, zE_12, zE_13, zE_14, zE_neg, zE_le, h3, if_false, zE_inj, e1, ↓zo_12, ↓zLFa hR hC, ↓zo_2, zCg3 hC, e2, if_true, e5, ↓zb_s, z1, zCg2 hC, ↓zlet_s, zE_add]
        · have ha : ¬ zalo s (zpa s f i.toNat) c = 1 := by
            unfold zalo
            rw [if_pos e2, if_neg e4]
            decide
          rw [if_neg e4] at e5
          refine Or.inl ⟨0, zbo_0 fun z => ha (z _ e1), ?_⟩
          simp (discharger := omega) only [zm121_4, zE_0, zE_1, zE_2, zE_3, zE_4, zE_5, zE_6, zE_7, zE_8, zE_9, zE_10, zE_11, zE_12, zE_13, zE_14, zE_neg, zE_le, h3, if_false, zE_inj, e1, ↓zo_12, ↓zLFa hR hC, ↓zo_2, zCg3 hC, e2, if_true, e5, ↓zb_s]
      · have ha : ¬ zalo s (zpa s f i.toNat) c = 1 := by
          unfold zalo
          rw [if_neg e2]
          decide
        refine Or.inl ⟨0, zbo_0 fun z => ha (z _ e1), ?_⟩
        simp (discharger := omega) only [zm121_4, zE_0, zE_1, zE_2, zE_3, zE_4, zE_5, zE_6, zE_7, zE_8, zE_9, zE_10, zE_11, zE_12, zE_13, zE_14, zE_neg, zE_le, h3, if_false, zE_inj, e1, ↓zo_12, ↓zLFa hR hC, ↓zo_2, zCg3 hC, e2]
theorem zp234_42 {h : zH} {s : zS} (hM : zMd h s) (hG : zWg s) {k12 : zq → Int32 → Int32 → Int32 → Int32 → zH → zRs Int32} {f c i t : Int} {x1 x2 x4 : Int32} (f0 : 0 ≤ f) (f1 : f < 8) (x0 : 0 ≤ i) (x1' : i < s 65 f) (c0 : 0 ≤ c) (c1 : c < 200) : zm234_42 k12 (some (13, 0)) x1 x2 (zE t) x4 (zE (4 * f + i)) (zE (zhas s c (4 * f + i))) h = zm234_84 k12 (some (13, 0)) x1 x2 x4 (zE (if zmt s c (4 * f + i) = 1 then zoc s (4 * f + i) else t)) h := by
  obtain ⟨g1, g2, g3, g4, g5, g6⟩ := hG.1 f f0 f1
  obtain ⟨h1, h2, h3, h4⟩ := g6 i x0 x1'
  have hr := zhas_r (x := 4 * f + i) hG c0 c1
  have z1 : ¬ zE 1 = zE 0 := by decide
  have yes : zm234_67 k12 (some (13, 0)) x1 x2 (zE t) x4 (zE (4 * f + i)) (zE 1) h = zm234_84 k12 (some (13, 0)) x1 x2 x4 (zE (zoc s (4 * f + i))) h := by
    unfold zoc
    by_cases k : s 69 (4 * f + i) = 1
    · simp (discharger := omega) only [zm234_67, zE_0, zE_1, zE_2, zE_3, zE_4, zE_5, zE_6, zE_7, zE_8, zE_9, zE_10, zE_11, zE_12, zE_13, zE_14, zE_neg, zE_100, z1, if_false, ↓zM_ob, ↓zMi69 hM, k, if_true]
    · simp (discharger := omega) only [zm234_67, zE_0, zE_1, zE_2, zE_3, zE_4, zE_5, zE_6, zE_7, zE_8, zE_9, zE_10, zE_11, zE_12, zE_13, zE_14, zE_neg, z1, if_false, ↓zM_ob, ↓zMi69 hM, zE_inj, k]
  have no : zm234_67 k12 (some (13, 0)) x1 x2 (zE t) x4 (zE (4 * f + i)) (zE 0) h = zm234_84 k12 (some (13, 0)) x1 x2 x4 (zE t) h := by
    rw [zm234_67, if_pos zE_0.symm]
  unfold zmt
  by_cases e1 : s 67 (4 * f + i) = 0
  · rw [if_pos e1]
    by_cases e2 : zhas s c (4 * f + i) = s 68 (4 * f + i)
    · rw [if_pos e2, if_pos rfl]
      simp (discharger := omega) only [zm234_42, ↓zM_ob, ↓zMi67 hM, zE_0, zE_1, zE_2, zE_3, zE_4, zE_5, zE_6, zE_7, zE_8, zE_9, zE_10, zE_11, zE_12, zE_13, zE_14, zE_neg, e1, if_true, ↓zMi68 hM, e2, yes]
    · rw [if_neg e2, if_neg (by decide)]
      simp (discharger := omega) only [zm234_42, ↓zM_ob, ↓zMi67 hM, zE_0, zE_1, zE_2, zE_3, zE_4, zE_5, zE_6, zE_7, zE_8, zE_9, zE_10, zE_11, zE_12, zE_13, zE_14, zE_neg, e1, if_true, ↓zMi68 hM, zE_inj, e2, if_false, no]
  · rw [if_neg e1]
    by_cases e2 : zhas s c (4 * f + i) < s 68 (4 * f + i)
    · rw [if_pos e2, if_neg (by decide)]
      simp (discharger := omega) only [zm234_42, ↓zM_ob, ↓zMi67 hM, zE_0, zE_1, zE_2, zE_3, zE_4, zE_5, zE_6, zE_7, zE_8, zE_9, zE_10, zE_11, zE_12, zE_13, zE_14, zE_neg, zE_inj, e1, if_false, ↓zMi68 hM, zE_lt, e2, if_true, no]
    · rw [if_neg e2, if_pos rfl]
      simp (discharger := omega) only [zm234_42, ↓zM_ob, ↓zMi67 hM, zE_0, zE_1, zE_2, zE_3, zE_4, zE_5, zE_6, zE_7, zE_8, zE_9, zE_10, zE_11, zE_12, zE_13, zE_14, zE_neg, zE_inj, e1, if_false, ↓zMi68 hM, zE_lt, e2, yes]
theorem zp234 {h : zH} {s : zS} (hM : zMd h s) (hG : zWg s) {f c : Int} (f0 : 0 ≤ f) (f1 : f < 8) (c0 : 0 ≤ c) (c1 : c < 200) : zm234 (some (13, 0)) (zE f) (zE c) h = some (.inl (zE (zalo s f c)), h) := by
  obtain ⟨g1, g2, g3, g4, g5, g6⟩ := hG.1 f f0 f1
  have hp : 0 ≤ zplc f c ∧ zplc f c < 100 := by unfold zplc; omega
  simp (discharger := omega) only [zm234, ↓zM_ob, ↓zMi61 hM, ↓zMi65 hM, ↓zlet_s, zE_0, zE_1, zE_2, zE_3, zE_4, zE_5, zE_6, zE_7, zE_8, zE_9, zE_10, zE_11, zE_12, zE_13, zE_14, zE_neg, zE_sub]
  rw [show s 65 f - 1 = s 65 f - 1 - 0 by omega]
  refine zloop0 (W := fun n i t => zm234_12 zm234_87 n (some (13, 0)) (zE f) (zE c) (zE t) (zE (s 65 f - 1 - i)) h) (N := s 65 f) (fun i t => t = zpcR s f c (s 65 f) i.toNat) (fun r => r = some (.inl (zE (zalo s f c)), h)) (s 61 f) rfl g5.1 (by omega) ?_ ?_
  · rintro n t rfl
    have hr := zpcR_r (c := c) hG f0 f1 (s 65 f).toNat (by omega)
    have e0 : s 65 f - 1 - s 65 f < 0 := by omega
    have e3 := zplc_e f0 f1 c0 c1
    simp only [zE_0, zE_1, zE_2, zE_3, zE_4, zE_5, zE_6, zE_7, zE_8, zE_9, zE_10, zE_11, zE_12, zE_13, zE_14, zE_neg, zE_53, zE_29, zE_100] at e3
    simp (discharger := omega) only [zm234_12, zm234_87, zE_0, zE_1, zE_2, zE_3, zE_4, zE_5, zE_6, zE_7, zE_8, zE_9, zE_10, zE_11, zE_12, zE_13, zE_14, zE_neg, zE_lt, e0, if_true, ↓zM_ob, ↓zMi63 hM, zE_53, zE_29, zE_100, e3, zE_le]
    unfold zalo zpcT
    by_cases k1 : s 63 f = 0
    · simp only [k1, if_true]
      by_cases k2 : zplc f c < zpcR s f c (s 65 f) (s 65 f).toNat
      · rw [if_neg (by omega), if_pos k2]
      · rw [if_pos (by omega), if_neg k2]
    · simp (discharger := omega) only [zE_inj, k1, if_false]
  · rintro n i t h1 h2 rfl
    have e0 : ¬ s 65 f - 1 - i < 0 := by omega
    have hw := g6 (s 65 f - 1 - i) (by omega) (by omega)
    refine Or.inr ⟨_, rfl, ?_⟩
    have e1 : zpcR s f c (s 65 f) (i + 1).toNat = if zmt s c (4 * f + (s 65 f - 1 - i)) = 1 then zoc s (4 * f + (s 65 f - 1 - i)) else zpcR s f c (s 65 f) i.toNat := by
      rw [show (i + 1).toNat = i.toNat + 1 by omega]
      show (if zmt s c (4 * f + (s 65 f - 1 - (i.toNat : Int))) = 1 then _ else _) = _
      rw [show (i.toNat : Int) = i by omega]
    rw [e1, show s 65 f - 1 - (i + 1) = s 65 f - 1 - i + -1 by omega]
    have e2 := fun (k12 : zq → Int32 → Int32 → Int32 → Int32 → zH → zRs Int32) (t : Int) (x1 x2 x4 : Int32) => zp234_42 (k12 := k12) (t := t) (x1 := x1) (x2 := x2) (x4 := x4) hM hG f0 f1 (show 0 ≤ s 65 f - 1 - i by omega) (show s 65 f - 1 - i < s 65 f by omega) c0 c1
    unfold zhas at e2
    by_cases k1 : s 66 (4 * f + (s 65 f - 1 - i)) = 0
    · simp only [k1, if_true] at e2
      simp (discharger := omega) only [zm234_12, zE_0, zE_1, zE_2, zE_3, zE_4, zE_5, zE_6, zE_7, zE_8, zE_9, zE_10, zE_11, zE_12, zE_13, zE_14, zE_neg, zE_lt, e0, if_false, ↓zlet_s, zE_mul, zE_add, ↓zM_ob, ↓zMi66 hM, k1, if_true, zp144, ↓zb_s, e2, zm234_84]
    · by_cases k2 : s 66 (4 * f + (s 65 f - 1 - i)) = 1
      · simp (discharger := omega) only [k2, if_true] at e2
        rw [if_neg (by decide)] at e2
        have z10 : ¬ zE 1 = zE 0 := by decide
        simp (discharger := omega) only [zm234_12, zE_0, zE_1, zE_2, zE_3, zE_4, zE_5, zE_6, zE_7, zE_8, zE_9, zE_10, zE_11, zE_12, zE_13, zE_14, zE_neg, zE_lt, e0, if_false, ↓zlet_s, zE_mul, zE_add, ↓zM_ob, ↓zMi66 hM, k2, z10, if_true, zE_rem, e2, zm234_84]
      · simp only [k1, k2, if_false] at e2
        simp (discharger := omega) only [zm234_12, zE_0, zE_1, zE_2, zE_3, zE_4, zE_5, zE_6, zE_7, zE_8, zE_9, zE_10, zE_11, zE_12, zE_13, zE_14, zE_neg, zE_lt, e0, if_false, ↓zlet_s, zE_mul, zE_add, ↓zM_ob, ↓zMi66 hM, zE_inj, k1, k2, ↓zMi70 hM, e2, zm234_84]
theorem zp235 {h : zH} {s : zS} (hM : zMd h s) (hG : zWg s) (hx : zac s) {f c : Int} (f0 : 0 ≤ f) (f1 : f < 8) (c0 : 0 ≤ c) (c1 : c < 200) : ∃ b, zbo b (zonn s f c) ∧ zm235 (some (13, 0)) (zE f) (zE c) h = some (.inl (zE b), h) := by
  have hp : ∀ f, 0 ≤ f → f < 8 → -1 ≤ s 62 f ∧ s 62 f ≤ 7 := fun f a b => (hG.1 f a b).2.1
  have p0 : -1 ≤ f ∧ f ≤ 7 := by omega
  have h8 := zpa_8 hx hp p0
  have z1 : ¬ zE 1 = zE 0 := by decide
  have fin : ∀ (i : Int) (t : Int), zpa s f i.toNat = -1 → zbo t (∀ m : Nat, (m : Int) < i → zpa s f m ≠ -1 → zalo s (zpa s f m) c = 1) → zbo t (zonn s f c) := fun i t e hb => hb.cg ⟨fun z => zonn_8 e fun m hm => z m (by omega), fun z m _ hm => z m hm⟩
  rw [zm235, zE_1]
  refine zloop0 (W := fun n i t => zm235_4 n (some (13, 0)) (zE c) (zE t) (zE (zpa s f i.toNat)) h) (N := 8) (fun i t => zbo t (∀ m : Nat, (m : Int) < i → zpa s f m ≠ -1 → zalo s (zpa s f m) c = 1)) (fun r => ∃ b, zbo b (zonn s f c) ∧ r = some (.inl (zE b), h)) 1 (zbo_1 fun m hm => by omega) (by omega) (by omega) ?_ ?_
  · intro n t hb
    refine ⟨t, fin 8 t h8 hb, ?_⟩
    show zm235_4 (n + 1) (some (13, 0)) (zE c) (zE t) (zE (zpa s f 8)) h = _
    simp only [zm235_4, zE_0, zE_1, zE_2, zE_3, zE_4, zE_5, zE_6, zE_7, zE_8, zE_9, zE_10, zE_11, zE_12, zE_13, zE_14, zE_neg, h8, if_true]
    rw [← zE_0, ← zE_1]
    exact zif_s hb.e
  · intro n i t h1 h2 hb
    have hr := zpa_r hp p0 i.toNat
    by_cases e1 : zpa s f i.toNat = -1
    · refine Or.inl ⟨t, fin i t e1 hb, ?_⟩
      simp only [zm235_4, zE_0, zE_1, zE_2, zE_3, zE_4, zE_5, zE_6, zE_7, zE_8, zE_9, zE_10, zE_11, zE_12, zE_13, zE_14, zE_neg, e1, if_true]
      rw [← zE_0, ← zE_1]
      exact zif_s hb.e
    · have e3 : zpa s f (i + 1).toNat = s 62 (zpa s f i.toNat) := by
        rw [show (i + 1).toNat = i.toNat + 1 by omega]
        exact if_neg e1
      simp only [e3]
      rcases hb with ⟨rfl, hb⟩ | ⟨rfl, hb⟩
      · have e5 := zp234 hM hG (f := zpa s f i.toNat) (c := c) (by omega) (by omega) c0 c1
        rcases zalo_b (s := s) (f := zpa s f i.toNat) (c := c) with ha | ha
        · rw [ha] at e5
          refine Or.inr ⟨0, zbo_0 fun z => ?_, ?_⟩
          · have := z i.toNat (by omega) e1
            omega
          · simp (discharger := omega) only [zm235_4, zm235_17, zE_0, zE_1, zE_2, zE_3, zE_4, zE_5, zE_6, zE_7, zE_8, zE_9, zE_10, zE_11, zE_12, zE_13, zE_14, zE_neg, zE_inj, e1, if_false, z1, ↓zM_ob, e5, ↓zb_s, if_true, ↓zMi62 hM]
        · rw [ha] at e5
          refine Or.inr ⟨1, zbo_1 fun m hm hm2 => ?_, ?_⟩
          · by_cases k : (m : Int) < i
            · exact hb m k hm2
            · rw [show m = i.toNat by omega]; exact ha
          · simp (discharger := omega) only [zm235_4, zm235_17, zE_0, zE_1, zE_2, zE_3, zE_4, zE_5, zE_6, zE_7, zE_8, zE_9, zE_10, zE_11, zE_12, zE_13, zE_14, zE_neg, zE_inj, e1, if_false, z1, ↓zM_ob, e5, ↓zb_s, ↓zMi62 hM]
      · refine Or.inr ⟨0, zbo_0 fun z => hb fun m hm => z m (by omega), ?_⟩
        simp (discharger := omega) only [zm235_4, zm235_17, zE_0, zE_1, zE_2, zE_3, zE_4, zE_5, zE_6, zE_7, zE_8, zE_9, zE_10, zE_11, zE_12, zE_13, zE_14, zE_neg, zE_inj, e1, if_false, if_true, ↓zM_ob, ↓zMi62 hM]
theorem zp236_x {x1 x2 : Int32} {h : zH} : zm236_12 (some (13, 0)) x1 x2 (some (13, 0)) (zE 1) h = some (.inl (zE 0), zsi h 13 0 0 (zE 1)) := by
  rw [zm236_12, zM_ob, zlet_s, zM_ob, if_neg, zE_0]
  rw [zi_s, zE_0, zE_le (by omega) (by omega) (by omega) (by omega)]
  omega
theorem zr_isOn (x y : Int32) : zPrZ (fun h => zm120 (some (12, 0)) x y h) (fun h => zm236 (some (13, 0)) x y h) (fun _ => 0) 1 := by
  intro h s hC hM hW
  obtain ⟨f, rfl, f1, f2⟩ := zE_ex x
  obtain ⟨c, rfl, c1, c2⟩ := zE_ex y
  have z1 : ¬ zE 1 = zE 0 := by decide
  have hC0 := hC
  have hW0 := hW
  obtain ⟨cr, cs, -, -, -, -, -, -, -, -, cG, cX, -⟩ := hC
  obtain ⟨wA, wK, wC, wD, wP, wR, wZ, wT, wG, wE, wM, wX⟩ := hW
  have hd := wD.1
  have m1 : ∀ h', ∃ b, zbo b (0 ≤ f ∧ f ≤ 7) ∧ zm229 (zE f) h' = some (.inl (zE b), h') := fun h' => zp229 f1 f2
  have m2 : ∀ h', ∃ b, zbo b (0 ≤ c ∧ c ≤ 199) ∧ zm139 (zE c) (zE 0) (zE 199) h' = some (.inl (zE b), h') := fun h' => zp139i c1 c2 (by omega) (by omega) (by omega) (by omega)
  by_cases q : (0 ≤ f ∧ f ≤ 7) ∧ 0 ≤ c ∧ c ≤ 199
  · obtain ⟨q1, q2⟩ := q
    have m1 : ∀ h', zm229 (zE f) h' = some (.inl (zE 1), h') := fun h' => by
      obtain ⟨b, b1, b2⟩ := m1 h'
      rwa [b1.u (zbo_1 q1)] at b2
    have m2 : ∀ h', zm139 (zE c) (zE 0) (zE 199) h' = some (.inl (zE 1), h') := fun h' => by
      obtain ⟨b, b1, b2⟩ := m2 h'
      rwa [b1.u (zbo_1 q2)] at b2
    have hC' := zw_2_4 (x := s 1 0) hC0 q1.1 (show f < 8 by omega)
    have hW' : zWf (zup s 64 f (s 1 0)) := by
      refine ⟨wA, wK, wC, wD, wP, wR, wZ, wT, ⟨fun u u0 u1 => ?_, wG.2⟩, wE, wM, wX⟩
      obtain ⟨g1, g2, g3, g4, g5, g6⟩ := wG.1 u u0 u1
      refine ⟨g1, g2, g3, ?_, g5, g6⟩
      show 0 ≤ zup s 64 f (s 1 0) 64 u ∧ zup s 64 f (s 1 0) 64 u ≤ s 1 0
      by_cases e : u = f
      · rw [e, zup_s]; omega
      · rw [zup_a e]; exact g4
    have cG' := hC'.2.2.2.2.2.2.2.2.2.2.1
    have cX' := hC'.2.2.2.2.2.2.2.2.2.2.2.1
    have wG' := hW'.2.2.2.2.2.2.2.2.1
    have hx' : zac (zup s 64 f (s 1 0)) := wX.2.2.2.1
    obtain ⟨b, b1, b2⟩ := zc121 hC'.1 cG' cX' wG' hx' q1.1 (show f < 8 by omega) q2.1 (show c < 200 by omega)
    refine zokZ (v := b) (by omega) (by have := b1.r; omega) hW' (h1 := zsi h 2 f.toNat 4 (zE (s 1 0))) ?_ hC' (zKp_i (fun z => z (by unfold zpc1; decide))) (by show zce h ≤ _; omega) (by show zso h ≤ _; omega) (fun h' hM' => ?_)
    · simp (discharger := omega) only [zm120, zE_0, zE_1, zE_2, zE_3, zE_4, zE_5, zE_6, zE_7, zE_8, zE_9, zE_10, zE_11, zE_12, zE_13, zE_14, zE_neg, zE_199, zc131, if_pos q1, if_pos q2, ↓zb_s, ↓zo_12, ↓zLFa cr cG, ↓zo_2, zCs11 cs, ↓zlet_s, b2]
      rw [← zE_0, ← zE_1]
      exact zif_s b1.e
    · have hM1 := hM'.ws 0 (by decide) 0
      have hM2 := hM1.wa (64, 164, 8) (by decide) f (s 1 0) (by omega)
      refine ⟨_, zsc_c zsc_up, (zup_j (by decide)).trans zup_s, _, ?_, hM2, (zKp_i (fun z => z (Or.inl rfl))).tr (zKp_i (fun z => z (Or.inr (by decide)))), rfl, rfl⟩
      show zm236 (some (13, 0)) (zE f) (zE c) h' = _
      obtain ⟨d, d1, d2⟩ := zp235 hM2 (show zWg (zup (zup s 0 0 0) 64 f (s 1 0)) from wG') (show zac (zup (zup s 0 0 0) 64 f (s 1 0)) from hx') q1.1 (show f < 8 by omega) q2.1 (show c < 200 by omega)
      have hbd : d = b := by
        refine d1.u (b1.cg (zonn_e fun j hj => ?_).symm)
        funext a
        unfold zup
        by_cases e : j = 64 ∧ a = f
        · rw [if_pos e, if_pos e]
        · rw [if_neg e, if_neg e, if_neg fun z => hj z.1]
      subst hbd
      have e1 : zup s 0 0 0 1 0 = s 1 0 := rfl
      simp (discharger := omega) only [zm236, zm236_12, zE_0, zE_1, zE_2, zE_3, zE_4, zE_5, zE_6, zE_7, zE_8, zE_9, zE_10, zE_11, zE_12, zE_13, zE_14, zE_neg, zE_199, m1, m2, ↓zb_s, z1, if_false, ↓zM_ob, ↓zlet_s, zMs0 hM1, zup_s, Int32.le_refl, if_true, zMs1 hM1, e1, ↓zMa64 hM1, d2]
      rw [← zE_0, ← zE_1]
      exact zif_s d1.e
  · refine zexZ (t := 1) hC0 hW0 (by omega) (by omega) ?_ (fun h' hM' => ?_)
    · show zm120 (some (12, 0)) (zE f) (zE c) h = some (.inr 0, zro h 1 6)
      by_cases q1 : 0 ≤ f ∧ f ≤ 7
      · have q2 : ¬ (0 ≤ c ∧ c ≤ 199) := fun z => q ⟨q1, z⟩
        simp (discharger := omega) only [zm120, zE_0, zE_1, zE_2, zE_3, zE_4, zE_5, zE_6, zE_7, zE_8, zE_9, zE_10, zE_11, zE_12, zE_13, zE_14, zE_neg, zE_199, zc131, if_pos q1, if_neg q2, ↓zb_s, ↓zb_x]
      · simp (discharger := omega) only [zm120, zE_0, zE_1, zE_2, zE_3, zE_4, zE_5, zE_6, zE_7, zE_8, zE_9, zE_10, zE_11, zE_12, zE_13, zE_14, zE_neg, zE_199, zc131, if_neg q1, ↓zb_x]
    · show zm236 (some (13, 0)) (zE f) (zE c) h' = _
      obtain ⟨b, b1, b2⟩ := m1 h'
      obtain ⟨d, d1, d2⟩ := m2 h'
      rcases b1 with ⟨rfl, b1⟩ | ⟨rfl, b1⟩
      · rcases d1 with ⟨rfl, d1⟩ | ⟨rfl, d1⟩
        · exact absurd ⟨b1, d1⟩ q
        · simp (discharger := omega) only [zm236, zE_0, zE_1, zE_2, zE_3, zE_4, zE_5, zE_6, zE_7, zE_8, zE_9, zE_10, zE_11, zE_12, zE_13, zE_14, zE_neg, zE_199, b2, d2, ↓zb_s, z1, if_false, if_true]
          exact zp236_x
      · simp (discharger := omega) only [zm236, zE_0, zE_1, zE_2, zE_3, zE_4, zE_5, zE_6, zE_7, zE_8, zE_9, zE_10, zE_11, zE_12, zE_13, zE_14, zE_neg, zE_199, b2, ↓zb_s, if_true]
        exact zp236_x
