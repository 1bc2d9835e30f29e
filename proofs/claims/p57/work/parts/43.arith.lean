set_option maxRecDepth 16384
/-! Ints of the small machine as integers. -/
def zE (a : Int) : Int32 := Int32.ofInt a
theorem zE_lit (n : Nat) [OfNat Int32 n] (h : (OfNat.ofNat n : Int32) = Int32.ofNat n) : (OfNat.ofNat n : Int32) = zE n := h.trans Int32.ofInt_eq_ofNat.symm
theorem zE_0 : (0 : Int32) = zE 0 := (Int32.ofInt_eq_ofNat (n := 0)).symm
theorem zE_1 : (1 : Int32) = zE 1 := (Int32.ofInt_eq_ofNat (n := 1)).symm
theorem zE_2 : (2 : Int32) = zE 2 := (Int32.ofInt_eq_ofNat (n := 2)).symm
theorem zE_3 : (3 : Int32) = zE 3 := (Int32.ofInt_eq_ofNat (n := 3)).symm
theorem zE_4 : (4 : Int32) = zE 4 := (Int32.ofInt_eq_ofNat (n := 4)).symm
theorem zE_5 : (5 : Int32) = zE 5 := (Int32.ofInt_eq_ofNat (n := 5)).symm
theorem zE_6 : (6 : Int32) = zE 6 := (Int32.ofInt_eq_ofNat (n := 6)).symm
theorem zE_7 : (7 : Int32) = zE 7 := (Int32.ofInt_eq_ofNat (n := 7)).symm
theorem zE_8 : (8 : Int32) = zE 8 := (Int32.ofInt_eq_ofNat (n := 8)).symm
theorem zE_9 : (9 : Int32) = zE 9 := (Int32.ofInt_eq_ofNat (n := 9)).symm
theorem zE_10 : (10 : Int32) = zE 10 := (Int32.ofInt_eq_ofNat (n := 10)).symm
theorem zE_11 : (11 : Int32) = zE 11 := (Int32.ofInt_eq_ofNat (n := 11)).symm
theorem zE_12 : (12 : Int32) = zE 12 := (Int32.ofInt_eq_ofNat (n := 12)).symm
theorem zE_13 : (13 : Int32) = zE 13 := (Int32.ofInt_eq_ofNat (n := 13)).symm
theorem zE_14 : (14 : Int32) = zE 14 := (Int32.ofInt_eq_ofNat (n := 14)).symm
theorem zE_16 : (16 : Int32) = zE 16 := (Int32.ofInt_eq_ofNat (n := 16)).symm
theorem zE_17 : (17 : Int32) = zE 17 := (Int32.ofInt_eq_ofNat (n := 17)).symm
theorem zE_19 : (19 : Int32) = zE 19 := (Int32.ofInt_eq_ofNat (n := 19)).symm
theorem zE_20 : (20 : Int32) = zE 20 := (Int32.ofInt_eq_ofNat (n := 20)).symm
theorem zE_29 : (29 : Int32) = zE 29 := (Int32.ofInt_eq_ofNat (n := 29)).symm
theorem zE_30 : (30 : Int32) = zE 30 := (Int32.ofInt_eq_ofNat (n := 30)).symm
theorem zE_31 : (31 : Int32) = zE 31 := (Int32.ofInt_eq_ofNat (n := 31)).symm
theorem zE_37 : (37 : Int32) = zE 37 := (Int32.ofInt_eq_ofNat (n := 37)).symm
theorem zE_40 : (40 : Int32) = zE 40 := (Int32.ofInt_eq_ofNat (n := 40)).symm
theorem zE_50 : (50 : Int32) = zE 50 := (Int32.ofInt_eq_ofNat (n := 50)).symm
theorem zE_53 : (53 : Int32) = zE 53 := (Int32.ofInt_eq_ofNat (n := 53)).symm
theorem zE_60 : (60 : Int32) = zE 60 := (Int32.ofInt_eq_ofNat (n := 60)).symm
theorem zE_61 : (61 : Int32) = zE 61 := (Int32.ofInt_eq_ofNat (n := 61)).symm
theorem zE_99 : (99 : Int32) = zE 99 := (Int32.ofInt_eq_ofNat (n := 99)).symm
theorem zE_100 : (100 : Int32) = zE 100 := (Int32.ofInt_eq_ofNat (n := 100)).symm
theorem zE_199 : (199 : Int32) = zE 199 := (Int32.ofInt_eq_ofNat (n := 199)).symm
theorem zE_200 : (200 : Int32) = zE 200 := (Int32.ofInt_eq_ofNat (n := 200)).symm
theorem zE_255 : (255 : Int32) = zE 255 := (Int32.ofInt_eq_ofNat (n := 255)).symm
theorem zE_500 : (500 : Int32) = zE 500 := (Int32.ofInt_eq_ofNat (n := 500)).symm
theorem zE_600 : (600 : Int32) = zE 600 := (Int32.ofInt_eq_ofNat (n := 600)).symm
theorem zE_800 : (800 : Int32) = zE 800 := (Int32.ofInt_eq_ofNat (n := 800)).symm
theorem zE_1000 : (1000 : Int32) = zE 1000 := (Int32.ofInt_eq_ofNat (n := 1000)).symm
theorem zE_20000 : (20000 : Int32) = zE 20000 := (Int32.ofInt_eq_ofNat (n := 20000)).symm
theorem zE_60000 : (60000 : Int32) = zE 60000 := (Int32.ofInt_eq_ofNat (n := 60000)).symm
theorem zE_m1 : (-1 : Int32) = zE (-1) := (Int32.ofInt_neg 1).symm
theorem zE_add (a b : Int) : zE a + zE b = zE (a + b) := (Int32.ofInt_add a b).symm
theorem zE_sub (a b : Int) : zE a - zE b = zE (a - b) := (Int32.ofInt_sub a b).symm
theorem zE_mul (a b : Int) : zE a * zE b = zE (a * b) := (Int32.ofInt_mul a b).symm
theorem zE_neg (a : Int) : -zE a = zE (-a) := (Int32.ofInt_neg a).symm
theorem zE_to {a : Int} (h1 : -2147483648 ≤ a) (h2 : a < 2147483648) : (zE a).toInt = a := Int32.toInt_ofInt_of_le (by omega) (by omega)
theorem zE_of (x : Int32) : x = zE x.toInt := (Int32.ofInt_toInt x).symm
theorem zE_rng (x : Int32) : -2147483648 ≤ x.toInt ∧ x.toInt < 2147483648 := ⟨Int32.le_toInt x, Int32.toInt_lt x⟩
theorem zE_ex (x : Int32) : ∃ a : Int, x = zE a ∧ -2147483648 ≤ a ∧ a < 2147483648 := ⟨x.toInt, zE_of x, zE_rng x⟩
theorem zE_lt {a b : Int} (h1 : -2147483648 ≤ a) (h2 : a < 2147483648) (h3 : -2147483648 ≤ b) (h4 : b < 2147483648) : (zE a < zE b) = (a < b) := by
  rw [Int32.lt_iff_toInt_lt, zE_to h1 h2, zE_to h3 h4]
theorem zE_le {a b : Int} (h1 : -2147483648 ≤ a) (h2 : a < 2147483648) (h3 : -2147483648 ≤ b) (h4 : b < 2147483648) : (zE a ≤ zE b) = (a ≤ b) := by
  rw [Int32.le_iff_toInt_le, zE_to h1 h2, zE_to h3 h4]
theorem zE_inj {a b : Int} (h1 : -2147483648 ≤ a) (h2 : a < 2147483648) (h3 : -2147483648 ≤ b) (h4 : b < 2147483648) : (zE a = zE b) = (a = b) := by
  rw [← Int32.toInt_inj, zE_to h1 h2, zE_to h3 h4]
theorem zE_nat {a : Int} (h1 : -2147483648 ≤ a) (h2 : a < 2147483648) : (zE a).toNatClampNeg = a.toNat := by
  show (zE a).toInt.toNat = a.toNat
  rw [zE_to h1 h2]
theorem zE_nI (n : Nat) : nI n = zE n := Int32.ofInt_eq_ofNat.symm
section ZPS
variable {α β σ : Type} {f : Nat → Nat → Option α} {g : Nat → Nat → Nat → Option α}
theorem zlet_s {x : σ} {f : σ → Option α} : zlet x f = f x := rfl
theorem zif_s {c : Prop} [Decidable c] {f : Option α} (h : c) : zif c f = f := if_pos h
theorem znn_s {k i : Nat} : znn (some (k, i)) f = f k i := rfl
theorem zb_s {v : α} {h : zH} {f : α → zH → zRs β} : zb (some (.inl v, h)) f = f v h := rfl
theorem zb_x {E : Nat} {h : zH} {f : α → zH → zRs β} : zb (some (.inr E, h)) f = some (.inr E, h) := rfl
theorem zb2_s {v : α} {h : zH} {f : α → zH → zRs β} : zb2 (some (.inl v, h)) f = f v h := rfl
theorem zob_s {ci k i : Nat} (h : (ztg k == 0 && zkc k == ci) = true) : zob ci (some (k, i)) f = f k i := if_pos h
/-- an int array is read -/
theorem zai_s {k i n : Nat} {q : zq} {a : Int} {h : zH} (e : q = some (k, i)) (hk : (ztg k == 1 || ztg k == 10) = true) (hn : zln h k i = n) (h0 : 0 ≤ a) (h1 : a < n) (h2 : a < 2147483648) : zai q (zE a) h g = g k i a.toNat := by
  subst e
  show (if (ztg k == 1 || ztg k == 10) = true then (if zE a < 0 ∨ zln h k i ≤ (zE a).toNatClampNeg then none else g k i (zE a).toNatClampNeg) else none) = _
  rw [if_pos hk, zE_nat (by omega) h2, if_neg]
  rw [hn]
  rintro (h3 | h3)
  · rw [zE_0, zE_lt (by omega) h2 (by omega) (by omega)] at h3
    omega
  · omega
theorem zar_s {t k i n : Nat} {q : zq} {a : Int} {h : zH} (e : q = some (k, i)) (hk : (ztg k == t) = true) (hn : zln h k i = n) (h0 : 0 ≤ a) (h1 : a < n) (h2 : a < 2147483648) : zar t q (zE a) h g = g k i a.toNat := by
  subst e
  show (if (ztg k == t) = true then (if zE a < 0 ∨ zln h k i ≤ (zE a).toNatClampNeg then none else g k i (zE a).toNatClampNeg) else none) = _
  rw [if_pos hk, zE_nat (by omega) h2, if_neg]
  rw [hn]
  rintro (h3 | h3)
  · rw [zE_0, zE_lt (by omega) h2 (by omega) (by omega)] at h3
    omega
  · omega
theorem zri_s {k i n : Nat} {q : zq} {a : Int} {h : zH} {x : Int32} {f : Int32 → Option α} (e : q = some (k, i)) (hk : (ztg k == 1 || ztg k == 10) = true) (hn : zln h k i = n) (h0 : 0 ≤ a) (h1 : a < n) (h2 : a < 2147483648) (hv : zi h k i a.toNat = x) : zri q (zE a) h f = f x := by
  unfold zri
  rw [zai_s e hk hn h0 h1 h2, hv]
theorem zrb_s {k i n : Nat} {q : zq} {a : Int} {h : zH} {x : Int32} {f : Int32 → Option α} (e : q = some (k, i)) (hk : (ztg k == 2) = true) (hn : zln h k i = n) (h0 : 0 ≤ a) (h1 : a < n) (h2 : a < 2147483648) (hv : zi h k i a.toNat = x) : zrb q (zE a) h f = f x := by
  unfold zrb
  rw [zar_s e hk hn h0 h1 h2, hv]
theorem zra_s {k i n : Nat} {q w : zq} {a : Int} {h : zH} {f : zq → Option α} (e : q = some (k, i)) (hk : (ztg k == 5) = true) (hn : zln h k i = n) (h0 : 0 ≤ a) (h1 : a < n) (h2 : a < 2147483648) (hv : zr h k i a.toNat = w) : zra q (zE a) h f = f w := by
  unfold zra
  rw [zar_s e hk hn h0 h1 h2, hv]
theorem zri_m2 {q : zq} {v r : Int} {h : zH} {f : Int32 → Option α} : zri q (((2 : Int32) * zE v) + zE r) h f = zri q (zE (2 * v + r)) h f := by rw [show (2 : Int32) = zE 2 from rfl, zE_mul, zE_add]
theorem zrb_m2 {q : zq} {v r : Int} {h : zH} {f : Int32 → Option α} : zrb q (((2 : Int32) * zE v) + zE r) h f = zrb q (zE (2 * v + r)) h f := by rw [show (2 : Int32) = zE 2 from rfl, zE_mul, zE_add]
theorem zar_m2 {t : Nat} {q : zq} {v r : Int} {h : zH} : zar t q (((2 : Int32) * zE v) + zE r) h g = zar t q (zE (2 * v + r)) h g := by rw [show (2 : Int32) = zE 2 from rfl, zE_mul, zE_add]
theorem zri_m3 {q : zq} {v r : Int} {h : zH} {f : Int32 → Option α} : zri q (((3 : Int32) * zE v) + zE r) h f = zri q (zE (3 * v + r)) h f := by rw [show (3 : Int32) = zE 3 from rfl, zE_mul, zE_add]
theorem zrb_m3 {q : zq} {v r : Int} {h : zH} {f : Int32 → Option α} : zrb q (((3 : Int32) * zE v) + zE r) h f = zrb q (zE (3 * v + r)) h f := by rw [show (3 : Int32) = zE 3 from rfl, zE_mul, zE_add]
theorem zar_m3 {t : Nat} {q : zq} {v r : Int} {h : zH} : zar t q (((3 : Int32) * zE v) + zE r) h g = zar t q (zE (3 * v + r)) h g := by rw [show (3 : Int32) = zE 3 from rfl, zE_mul, zE_add]
theorem zri_m4 {q : zq} {v r : Int} {h : zH} {f : Int32 → Option α} : zri q (((4 : Int32) * zE v) + zE r) h f = zri q (zE (4 * v + r)) h f := by rw [show (4 : Int32) = zE 4 from rfl, zE_mul, zE_add]
theorem zrb_m4 {q : zq} {v r : Int} {h : zH} {f : Int32 → Option α} : zrb q (((4 : Int32) * zE v) + zE r) h f = zrb q (zE (4 * v + r)) h f := by rw [show (4 : Int32) = zE 4 from rfl, zE_mul, zE_add]
theorem zar_m4 {t : Nat} {q : zq} {v r : Int} {h : zH} : zar t q (((4 : Int32) * zE v) + zE r) h g = zar t q (zE (4 * v + r)) h g := by rw [show (4 : Int32) = zE 4 from rfl, zE_mul, zE_add]
theorem zri_m8 {q : zq} {v r : Int} {h : zH} {f : Int32 → Option α} : zri q (((8 : Int32) * zE v) + zE r) h f = zri q (zE (8 * v + r)) h f := by rw [show (8 : Int32) = zE 8 from rfl, zE_mul, zE_add]
theorem zrb_m8 {q : zq} {v r : Int} {h : zH} {f : Int32 → Option α} : zrb q (((8 : Int32) * zE v) + zE r) h f = zrb q (zE (8 * v + r)) h f := by rw [show (8 : Int32) = zE 8 from rfl, zE_mul, zE_add]
theorem zar_m8 {t : Nat} {q : zq} {v r : Int} {h : zH} : zar t q (((8 : Int32) * zE v) + zE r) h g = zar t q (zE (8 * v + r)) h g := by rw [show (8 : Int32) = zE 8 from rfl, zE_mul, zE_add]
theorem zri_m10 {q : zq} {v r : Int} {h : zH} {f : Int32 → Option α} : zri q (((10 : Int32) * zE v) + zE r) h f = zri q (zE (10 * v + r)) h f := by rw [show (10 : Int32) = zE 10 from rfl, zE_mul, zE_add]
theorem zrb_m10 {q : zq} {v r : Int} {h : zH} {f : Int32 → Option α} : zrb q (((10 : Int32) * zE v) + zE r) h f = zrb q (zE (10 * v + r)) h f := by rw [show (10 : Int32) = zE 10 from rfl, zE_mul, zE_add]
theorem zar_m10 {t : Nat} {q : zq} {v r : Int} {h : zH} : zar t q (((10 : Int32) * zE v) + zE r) h g = zar t q (zE (10 * v + r)) h g := by rw [show (10 : Int32) = zE 10 from rfl, zE_mul, zE_add]
theorem zri_m200 {q : zq} {v r : Int} {h : zH} {f : Int32 → Option α} : zri q (((200 : Int32) * zE v) + zE r) h f = zri q (zE (200 * v + r)) h f := by rw [show (200 : Int32) = zE 200 from rfl, zE_mul, zE_add]
theorem zrb_m200 {q : zq} {v r : Int} {h : zH} {f : Int32 → Option α} : zrb q (((200 : Int32) * zE v) + zE r) h f = zrb q (zE (200 * v + r)) h f := by rw [show (200 : Int32) = zE 200 from rfl, zE_mul, zE_add]
theorem zar_m200 {t : Nat} {q : zq} {v r : Int} {h : zH} : zar t q (((200 : Int32) * zE v) + zE r) h g = zar t q (zE (200 * v + r)) h g := by rw [show (200 : Int32) = zE 200 from rfl, zE_mul, zE_add]
theorem zri_m600 {q : zq} {v r : Int} {h : zH} {f : Int32 → Option α} : zri q (((600 : Int32) * zE v) + zE r) h f = zri q (zE (600 * v + r)) h f := by rw [show (600 : Int32) = zE 600 from rfl, zE_mul, zE_add]
theorem zrb_m600 {q : zq} {v r : Int} {h : zH} {f : Int32 → Option α} : zrb q (((600 : Int32) * zE v) + zE r) h f = zrb q (zE (600 * v + r)) h f := by rw [show (600 : Int32) = zE 600 from rfl, zE_mul, zE_add]
theorem zar_m600 {t : Nat} {q : zq} {v r : Int} {h : zH} : zar t q (((600 : Int32) * zE v) + zE r) h g = zar t q (zE (600 * v + r)) h g := by rw [show (600 : Int32) = zE 600 from rfl, zE_mul, zE_add]
end ZPS

