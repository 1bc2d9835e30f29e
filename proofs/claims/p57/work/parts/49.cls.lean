set_option maxRecDepth 16384
/-! The class's objects: what they hold, by the state (printed by wip/whole/gen/cls.py). -/
/-- an object by its number; null for -1 -/
def zrf (k : Nat) (a : Int) : zq := if a = -1 then none else some (k, a.toNat)
theorem zrf_n {k : Nat} : zrf k (-1) = none := rfl
theorem zrf_s {k : Nat} {a : Int} (h : 0 ≤ a) : zrf k a = some (k, a.toNat) := if_neg (by omega)
theorem zrf_z {k : Nat} {a : Int} (h : -1 ≤ a) : (zrf k a = none) = (a = -1) := by
  by_cases e : a = -1
  · subst e; exact propext ⟨fun _ => rfl, fun _ => rfl⟩
  · rw [zrf_s (by omega)]; exact propext ⟨fun z => (by cases z), fun z => absurd z e⟩
theorem zrf_i {k : Nat} {a b : Int} (h : -1 ≤ a) (h' : -1 ≤ b) : (zrf k a = zrf k b) = (a = b) := by
  refine propext ⟨fun z => ?_, fun z => by rw [z]⟩
  by_cases e : a = -1
  · subst e
    rw [zrf_n] at z
    have := (zrf_z (k := k) h').mp z.symm
    omega
  · by_cases e' : b = -1
    · subst e'
      rw [zrf_n] at z
      have := (zrf_z (k := k) h).mp z
      omega
    · rw [zrf_s (by omega), zrf_s (by omega)] at z
      simp only [Option.some.injEq, Prod.mk.injEq] at z
      omega
/-- in how many rings and sessions an artefact is -/
noncomputable def zus (s : zS) (a : Int) : Int := zcnt (fun k => s 12 k = a) 12 + (zcnt (fun k => s 13 k = a) 12 + zcnt (fun c => s 18 c = a) 800)
def zrg (c r : Int) : Prop := (c % 10 = 0 ∧ r = 0) ∨ (c % 10 ≠ 0 ∧ c % 10 ≤ 3 ∧ r = 1) ∨ (3 < c % 10 ∧ r = 2)
noncomputable def zss (s : zS) (a r : Int) : Int := zcnt (fun c => s 18 c = a ∧ zrg (c % 200) r) 800
section ZCO
variable {α : Type} {h : zH} {s : zS} {i : Nat} {f : Nat → Nat → Option α}
theorem zo_0 : zob 0 (some (0, i)) f = f 0 i := rfl
theorem zo_1 : zob 1 (some (1, i)) f = f 1 i := rfl
theorem zo_2 : zob 2 (some (2, i)) f = f 2 i := rfl
theorem zo_3 : zob 3 (some (3, i)) f = f 3 i := rfl
theorem zo_4 : zob 4 (some (4, i)) f = f 4 i := rfl
theorem zo_5 : zob 5 (some (5, i)) f = f 5 i := rfl
theorem zo_6 : zob 6 (some (6, i)) f = f 6 i := rfl
theorem zo_7 : zob 7 (some (7, i)) f = f 7 i := rfl
theorem zo_8 : zob 7 (some (8, i)) f = f 8 i := rfl
theorem zo_9 : zob 8 (some (9, i)) f = f 9 i := rfl
theorem zo_10 : zob 9 (some (10, i)) f = f 10 i := rfl
theorem zo_11 : zob 10 (some (11, i)) f = f 11 i := rfl
theorem zo_12 : zob 11 (some (12, i)) f = f 12 i := rfl
theorem zo_13 : zob 12 (some (13, i)) f = f 13 i := rfl
end ZCO
def zCr (h : zH) : Prop := zr h 12 0 0 = some (14, 0) ∧ zr h 12 0 1 = some (15, 0) ∧ zr h 12 0 2 = some (16, 0) ∧ zr h 12 0 3 = some (17, 0) ∧ zr h 12 0 4 = some (18, 0) ∧ zr h 12 0 5 = some (19, 0) ∧ zr h 12 0 6 = some (33, 0) ∧ zr h 12 0 7 = some (34, 0) ∧ zr h 12 0 8 = some (35, 0) ∧ zr h 12 0 9 = some (36, 0) ∧ zr h 12 0 10 = some (37, 0)
theorem zCr0 {h : zH} (hC : zCr h) : zr h 12 0 0 = some (14, 0) := hC.1
theorem zCr1 {h : zH} (hC : zCr h) : zr h 12 0 1 = some (15, 0) := hC.2.1
theorem zCr2 {h : zH} (hC : zCr h) : zr h 12 0 2 = some (16, 0) := hC.2.2.1
theorem zCr3 {h : zH} (hC : zCr h) : zr h 12 0 3 = some (17, 0) := hC.2.2.2.1
theorem zCr4 {h : zH} (hC : zCr h) : zr h 12 0 4 = some (18, 0) := hC.2.2.2.2.1
theorem zCr5 {h : zH} (hC : zCr h) : zr h 12 0 5 = some (19, 0) := hC.2.2.2.2.2.1
theorem zCr6 {h : zH} (hC : zCr h) : zr h 12 0 6 = some (33, 0) := hC.2.2.2.2.2.2.1
theorem zCr7 {h : zH} (hC : zCr h) : zr h 12 0 7 = some (34, 0) := hC.2.2.2.2.2.2.2.1
theorem zCr8 {h : zH} (hC : zCr h) : zr h 12 0 8 = some (35, 0) := hC.2.2.2.2.2.2.2.2.1
theorem zCr9 {h : zH} (hC : zCr h) : zr h 12 0 9 = some (36, 0) := hC.2.2.2.2.2.2.2.2.2.1
theorem zCr10 {h : zH} (hC : zCr h) : zr h 12 0 10 = some (37, 0) := hC.2.2.2.2.2.2.2.2.2.2
def zCs (h : zH) (s : zS) : Prop := zi h 12 0 11 = zE (s 1 0) ∧ zi h 12 0 13 = zE (s 43 0) ∧ zi h 12 0 14 = zE (s 45 0) ∧ zi h 12 0 15 = zE (s 19 0) ∧ zi h 12 0 16 = zE (s 46 0) ∧ zi h 12 0 17 = zE (s 39 0) ∧ (s 43 0 = 0 → zi h 12 0 12 = zE (s 44 0))
theorem zCs11 {h : zH} {s : zS} (hC : zCs h s) : zi h 12 0 11 = zE (s 1 0) := hC.1
theorem zCs13 {h : zH} {s : zS} (hC : zCs h s) : zi h 12 0 13 = zE (s 43 0) := hC.2.1
theorem zCs14 {h : zH} {s : zS} (hC : zCs h s) : zi h 12 0 14 = zE (s 45 0) := hC.2.2.1
theorem zCs15 {h : zH} {s : zS} (hC : zCs h s) : zi h 12 0 15 = zE (s 19 0) := hC.2.2.2.1
theorem zCs16 {h : zH} {s : zS} (hC : zCs h s) : zi h 12 0 16 = zE (s 46 0) := hC.2.2.2.2.1
theorem zCs17 {h : zH} {s : zS} (hC : zCs h s) : zi h 12 0 17 = zE (s 39 0) := hC.2.2.2.2.2.1
theorem zCs12 {h : zH} {s : zS} (hC : zCs h s) (h0 : s 43 0 = 0) : zi h 12 0 12 = zE (s 44 0) := hC.2.2.2.2.2.2 h0
def zCA (h : zH) (s : zS) : Prop := (zi h 14 0 1 = 1 ∧ (zln h 14 0 : Int) = s 2 0) ∧ ∀ a : Int, 0 ≤ a → a < s 2 0 → zr h 14 0 a.toNat = some (0, a.toNat) ∧ zi h 0 a.toNat 0 = zE a ∧ zi h 0 a.toNat 1 = zE (s 3 a) ∧ zi h 0 a.toNat 2 = zE (s 4 a) ∧ zi h 0 a.toNat 3 = zE (s 5 a) ∧ zi h 0 a.toNat 4 = zE (s 6 a) ∧ zi h 0 a.toNat 5 = zE (s 7 a) ∧ zi h 0 a.toNat 6 = zE (s 8 a) ∧ zi h 0 a.toNat 7 = zE (s 9 a) ∧ zi h 0 a.toNat 8 = zE (s 10 a) ∧ zi h 0 a.toNat 9 = zE (s 11 a) ∧ zi h 0 a.toNat 10 = zE (zus s a) ∧ zr h 0 a.toNat 11 = some (21, a.toNat) ∧ zln h 21 a.toNat = 3 ∧ (∀ g : Int, 0 ≤ g → g < 3 → zi h 21 a.toNat g.toNat = zE (zss s a g))
theorem zCaR {h : zH} {s : zS} (hC : zCA h s) {a : Int} (h0 : 0 ≤ a) (h1 : a < s 2 0) : zr h 14 0 a.toNat = some (0, a.toNat) := (hC.2 a h0 h1).1
theorem zCa0 {h : zH} {s : zS} (hC : zCA h s) {a : Int} (h0 : 0 ≤ a) (h1 : a < s 2 0) : zi h 0 a.toNat 0 = zE a := (hC.2 a h0 h1).2.1
theorem zCa1 {h : zH} {s : zS} (hC : zCA h s) {a : Int} (h0 : 0 ≤ a) (h1 : a < s 2 0) : zi h 0 a.toNat 1 = zE (s 3 a) := (hC.2 a h0 h1).2.2.1
theorem zCa2 {h : zH} {s : zS} (hC : zCA h s) {a : Int} (h0 : 0 ≤ a) (h1 : a < s 2 0) : zi h 0 a.toNat 2 = zE (s 4 a) := (hC.2 a h0 h1).2.2.2.1
theorem zCa3 {h : zH} {s : zS} (hC : zCA h s) {a : Int} (h0 : 0 ≤ a) (h1 : a < s 2 0) : zi h 0 a.toNat 3 = zE (s 5 a) := (hC.2 a h0 h1).2.2.2.2.1
theorem zCa4 {h : zH} {s : zS} (hC : zCA h s) {a : Int} (h0 : 0 ≤ a) (h1 : a < s 2 0) : zi h 0 a.toNat 4 = zE (s 6 a) := (hC.2 a h0 h1).2.2.2.2.2.1
theorem zCa5 {h : zH} {s : zS} (hC : zCA h s) {a : Int} (h0 : 0 ≤ a) (h1 : a < s 2 0) : zi h 0 a.toNat 5 = zE (s 7 a) := (hC.2 a h0 h1).2.2.2.2.2.2.1
theorem zCa6 {h : zH} {s : zS} (hC : zCA h s) {a : Int} (h0 : 0 ≤ a) (h1 : a < s 2 0) : zi h 0 a.toNat 6 = zE (s 8 a) := (hC.2 a h0 h1).2.2.2.2.2.2.2.1
theorem zCa7 {h : zH} {s : zS} (hC : zCA h s) {a : Int} (h0 : 0 ≤ a) (h1 : a < s 2 0) : zi h 0 a.toNat 7 = zE (s 9 a) := (hC.2 a h0 h1).2.2.2.2.2.2.2.2.1
theorem zCa8 {h : zH} {s : zS} (hC : zCA h s) {a : Int} (h0 : 0 ≤ a) (h1 : a < s 2 0) : zi h 0 a.toNat 8 = zE (s 10 a) := (hC.2 a h0 h1).2.2.2.2.2.2.2.2.2.1
theorem zCa9 {h : zH} {s : zS} (hC : zCA h s) {a : Int} (h0 : 0 ≤ a) (h1 : a < s 2 0) : zi h 0 a.toNat 9 = zE (s 11 a) := (hC.2 a h0 h1).2.2.2.2.2.2.2.2.2.2.1
theorem zCa10 {h : zH} {s : zS} (hC : zCA h s) {a : Int} (h0 : 0 ≤ a) (h1 : a < s 2 0) : zi h 0 a.toNat 10 = zE (zus s a) := (hC.2 a h0 h1).2.2.2.2.2.2.2.2.2.2.2.1
theorem zCa11 {h : zH} {s : zS} (hC : zCA h s) {a : Int} (h0 : 0 ≤ a) (h1 : a < s 2 0) : zr h 0 a.toNat 11 = some (21, a.toNat) := (hC.2 a h0 h1).2.2.2.2.2.2.2.2.2.2.2.2.1
theorem zCaL {h : zH} {s : zS} (hC : zCA h s) {a : Int} (h0 : 0 ≤ a) (h1 : a < s 2 0) : zln h 21 a.toNat = 3 := (hC.2 a h0 h1).2.2.2.2.2.2.2.2.2.2.2.2.2.1
theorem zCaS {h : zH} {s : zS} (hC : zCA h s) {a : Int} (h0 : 0 ≤ a) (h1 : a < s 2 0) : (∀ g : Int, 0 ≤ g → g < 3 → zi h 21 a.toNat g.toNat = zE (zss s a g)) := (hC.2 a h0 h1).2.2.2.2.2.2.2.2.2.2.2.2.2.2
def zCP (h : zH) (s : zS) : Prop := (zi h 15 0 1 = 1 ∧ (zln h 15 0 : Int) = s 25 0) ∧ ∀ p : Int, 0 ≤ p → p < s 25 0 → zr h 15 0 p.toNat = some (4, p.toNat) ∧ zr h 4 p.toNat 0 = some (22, p.toNat) ∧ zr h 4 p.toNat 1 = some (23, p.toNat) ∧ zr h 4 p.toNat 2 = some (24, p.toNat) ∧ zln h 22 p.toNat = 10 ∧ zln h 23 p.toNat = 10 ∧ zln h 24 p.toNat = 10 ∧ zi h 4 p.toNat 3 = zE (s 26 p) ∧ zi h 4 p.toNat 4 = zE (zcn1 (zxs 0 (s 30 0) fun r => s 32 r = p)) ∧ (∀ x : Int, 0 ≤ x → x < s 26 p → zi h 22 p.toNat x.toNat = zE (s 27 (10 * p + x))) ∧ (∀ x : Int, 0 ≤ x → x < s 26 p → zi h 23 p.toNat x.toNat = zE (s 28 (10 * p + x))) ∧ (∀ x : Int, 0 ≤ x → x < s 26 p → zi h 24 p.toNat x.toNat = zE (s 29 (10 * p + x)))
theorem zCpR {h : zH} {s : zS} (hC : zCP h s) {p : Int} (h0 : 0 ≤ p) (h1 : p < s 25 0) : zr h 15 0 p.toNat = some (4, p.toNat) := (hC.2 p h0 h1).1
theorem zCp0 {h : zH} {s : zS} (hC : zCP h s) {p : Int} (h0 : 0 ≤ p) (h1 : p < s 25 0) : zr h 4 p.toNat 0 = some (22, p.toNat) := (hC.2 p h0 h1).2.1
theorem zCp1 {h : zH} {s : zS} (hC : zCP h s) {p : Int} (h0 : 0 ≤ p) (h1 : p < s 25 0) : zr h 4 p.toNat 1 = some (23, p.toNat) := (hC.2 p h0 h1).2.2.1
theorem zCp2 {h : zH} {s : zS} (hC : zCP h s) {p : Int} (h0 : 0 ≤ p) (h1 : p < s 25 0) : zr h 4 p.toNat 2 = some (24, p.toNat) := (hC.2 p h0 h1).2.2.2.1
theorem zCpL0 {h : zH} {s : zS} (hC : zCP h s) {p : Int} (h0 : 0 ≤ p) (h1 : p < s 25 0) : zln h 22 p.toNat = 10 := (hC.2 p h0 h1).2.2.2.2.1
theorem zCpL1 {h : zH} {s : zS} (hC : zCP h s) {p : Int} (h0 : 0 ≤ p) (h1 : p < s 25 0) : zln h 23 p.toNat = 10 := (hC.2 p h0 h1).2.2.2.2.2.1
theorem zCpL2 {h : zH} {s : zS} (hC : zCP h s) {p : Int} (h0 : 0 ≤ p) (h1 : p < s 25 0) : zln h 24 p.toNat = 10 := (hC.2 p h0 h1).2.2.2.2.2.2.1
theorem zCp3 {h : zH} {s : zS} (hC : zCP h s) {p : Int} (h0 : 0 ≤ p) (h1 : p < s 25 0) : zi h 4 p.toNat 3 = zE (s 26 p) := (hC.2 p h0 h1).2.2.2.2.2.2.2.1
theorem zCp4 {h : zH} {s : zS} (hC : zCP h s) {p : Int} (h0 : 0 ≤ p) (h1 : p < s 25 0) : zi h 4 p.toNat 4 = zE (zcn1 (zxs 0 (s 30 0) fun r => s 32 r = p)) := (hC.2 p h0 h1).2.2.2.2.2.2.2.2.1
theorem zCpS0 {h : zH} {s : zS} (hC : zCP h s) {p : Int} (h0 : 0 ≤ p) (h1 : p < s 25 0) : (∀ x : Int, 0 ≤ x → x < s 26 p → zi h 22 p.toNat x.toNat = zE (s 27 (10 * p + x))) := (hC.2 p h0 h1).2.2.2.2.2.2.2.2.2.1
theorem zCpS1 {h : zH} {s : zS} (hC : zCP h s) {p : Int} (h0 : 0 ≤ p) (h1 : p < s 25 0) : (∀ x : Int, 0 ≤ x → x < s 26 p → zi h 23 p.toNat x.toNat = zE (s 28 (10 * p + x))) := (hC.2 p h0 h1).2.2.2.2.2.2.2.2.2.2.1
theorem zCpS2 {h : zH} {s : zS} (hC : zCP h s) {p : Int} (h0 : 0 ≤ p) (h1 : p < s 25 0) : (∀ x : Int, 0 ≤ x → x < s 26 p → zi h 24 p.toNat x.toNat = zE (s 29 (10 * p + x))) := (hC.2 p h0 h1).2.2.2.2.2.2.2.2.2.2.2
def zCR (h : zH) (s : zS) : Prop := (zi h 16 0 1 = 1 ∧ (zln h 16 0 : Int) = s 30 0) ∧ ∀ r : Int, 0 ≤ r → r < s 30 0 → zr h 16 0 r.toNat = some (5, r.toNat) ∧ zr h 5 r.toNat 0 = some (0, (s 31 r).toNat) ∧ zr h 5 r.toNat 1 = some (4, (s 32 r).toNat) ∧ zi h 5 r.toNat 2 = zE (s 33 r) ∧ zi h 5 r.toNat 3 = zE (s 34 r) ∧ zi h 5 r.toNat 4 = zE (s 35 r) ∧ zi h 5 r.toNat 5 = zE (s 36 r) ∧ zi h 5 r.toNat 6 = zE (s 38 r) ∧ zi h 5 r.toNat 8 = zE (s 37 r) ∧ zr h 5 r.toNat 7 = zrf 11 (s 40 r) ∧ zr h 5 r.toNat 9 = some (25, r.toNat) ∧ zr h 5 r.toNat 10 = some (26, r.toNat) ∧ zln h 25 r.toNat = 3 ∧ zln h 26 r.toNat = 3 ∧ (∀ g : Int, 0 ≤ g → g < 3 → zi h 25 r.toNat g.toNat = zE (s 41 (3 * r + g))) ∧ (∀ g : Int, 0 ≤ g → g < 3 → s 41 (3 * r + g) = 1 → zr h 26 r.toNat g.toNat = zrf 0 (s 42 (3 * r + g)))
theorem zCrR {h : zH} {s : zS} (hC : zCR h s) {r : Int} (h0 : 0 ≤ r) (h1 : r < s 30 0) : zr h 16 0 r.toNat = some (5, r.toNat) := (hC.2 r h0 h1).1
theorem zCrA {h : zH} {s : zS} (hC : zCR h s) {r : Int} (h0 : 0 ≤ r) (h1 : r < s 30 0) : zr h 5 r.toNat 0 = some (0, (s 31 r).toNat) := (hC.2 r h0 h1).2.1
theorem zCrP {h : zH} {s : zS} (hC : zCR h s) {r : Int} (h0 : 0 ≤ r) (h1 : r < s 30 0) : zr h 5 r.toNat 1 = some (4, (s 32 r).toNat) := (hC.2 r h0 h1).2.2.1
theorem zCr2_ {h : zH} {s : zS} (hC : zCR h s) {r : Int} (h0 : 0 ≤ r) (h1 : r < s 30 0) : zi h 5 r.toNat 2 = zE (s 33 r) := (hC.2 r h0 h1).2.2.2.1
theorem zCr3_ {h : zH} {s : zS} (hC : zCR h s) {r : Int} (h0 : 0 ≤ r) (h1 : r < s 30 0) : zi h 5 r.toNat 3 = zE (s 34 r) := (hC.2 r h0 h1).2.2.2.2.1
theorem zCr4_ {h : zH} {s : zS} (hC : zCR h s) {r : Int} (h0 : 0 ≤ r) (h1 : r < s 30 0) : zi h 5 r.toNat 4 = zE (s 35 r) := (hC.2 r h0 h1).2.2.2.2.2.1
theorem zCr5_ {h : zH} {s : zS} (hC : zCR h s) {r : Int} (h0 : 0 ≤ r) (h1 : r < s 30 0) : zi h 5 r.toNat 5 = zE (s 36 r) := (hC.2 r h0 h1).2.2.2.2.2.2.1
theorem zCr6_ {h : zH} {s : zS} (hC : zCR h s) {r : Int} (h0 : 0 ≤ r) (h1 : r < s 30 0) : zi h 5 r.toNat 6 = zE (s 38 r) := (hC.2 r h0 h1).2.2.2.2.2.2.2.1
theorem zCr8_ {h : zH} {s : zS} (hC : zCR h s) {r : Int} (h0 : 0 ≤ r) (h1 : r < s 30 0) : zi h 5 r.toNat 8 = zE (s 37 r) := (hC.2 r h0 h1).2.2.2.2.2.2.2.2.1
theorem zCr7_ {h : zH} {s : zS} (hC : zCR h s) {r : Int} (h0 : 0 ≤ r) (h1 : r < s 30 0) : zr h 5 r.toNat 7 = zrf 11 (s 40 r) := (hC.2 r h0 h1).2.2.2.2.2.2.2.2.2.1
theorem zCr9_ {h : zH} {s : zS} (hC : zCR h s) {r : Int} (h0 : 0 ≤ r) (h1 : r < s 30 0) : zr h 5 r.toNat 9 = some (25, r.toNat) := (hC.2 r h0 h1).2.2.2.2.2.2.2.2.2.2.1
theorem zCr10_ {h : zH} {s : zS} (hC : zCR h s) {r : Int} (h0 : 0 ≤ r) (h1 : r < s 30 0) : zr h 5 r.toNat 10 = some (26, r.toNat) := (hC.2 r h0 h1).2.2.2.2.2.2.2.2.2.2.2.1
theorem zCrL0 {h : zH} {s : zS} (hC : zCR h s) {r : Int} (h0 : 0 ≤ r) (h1 : r < s 30 0) : zln h 25 r.toNat = 3 := (hC.2 r h0 h1).2.2.2.2.2.2.2.2.2.2.2.2.1
theorem zCrL1 {h : zH} {s : zS} (hC : zCR h s) {r : Int} (h0 : 0 ≤ r) (h1 : r < s 30 0) : zln h 26 r.toNat = 3 := (hC.2 r h0 h1).2.2.2.2.2.2.2.2.2.2.2.2.2.1
theorem zCrS0 {h : zH} {s : zS} (hC : zCR h s) {r : Int} (h0 : 0 ≤ r) (h1 : r < s 30 0) : (∀ g : Int, 0 ≤ g → g < 3 → zi h 25 r.toNat g.toNat = zE (s 41 (3 * r + g))) := (hC.2 r h0 h1).2.2.2.2.2.2.2.2.2.2.2.2.2.2.1
theorem zCrS1 {h : zH} {s : zS} (hC : zCR h s) {r : Int} (h0 : 0 ≤ r) (h1 : r < s 30 0) : (∀ g : Int, 0 ≤ g → g < 3 → s 41 (3 * r + g) = 1 → zr h 26 r.toNat g.toNat = zrf 0 (s 42 (3 * r + g))) := (hC.2 r h0 h1).2.2.2.2.2.2.2.2.2.2.2.2.2.2.2
def zCZ (h : zH) (s : zS) : Prop := (zi h 17 0 1 = 1 ∧ (zln h 17 0 : Int) = s 51 0) ∧ ∀ x : Int, 0 ≤ x → x < s 51 0 → zr h 17 0 x.toNat = some (3, x.toNat) ∧ zi h 3 x.toNat 0 = zE (s 52 x) ∧ zi h 3 x.toNat 1 = zE (s 53 x) ∧ zi h 3 x.toNat 2 = zE (s 54 x) ∧ zi h 3 x.toNat 3 = zE (s 55 x)
theorem zCzR {h : zH} {s : zS} (hC : zCZ h s) {x : Int} (h0 : 0 ≤ x) (h1 : x < s 51 0) : zr h 17 0 x.toNat = some (3, x.toNat) := (hC.2 x h0 h1).1
theorem zCz0 {h : zH} {s : zS} (hC : zCZ h s) {x : Int} (h0 : 0 ≤ x) (h1 : x < s 51 0) : zi h 3 x.toNat 0 = zE (s 52 x) := (hC.2 x h0 h1).2.1
theorem zCz1 {h : zH} {s : zS} (hC : zCZ h s) {x : Int} (h0 : 0 ≤ x) (h1 : x < s 51 0) : zi h 3 x.toNat 1 = zE (s 53 x) := (hC.2 x h0 h1).2.2.1
theorem zCz2 {h : zH} {s : zS} (hC : zCZ h s) {x : Int} (h0 : 0 ≤ x) (h1 : x < s 51 0) : zi h 3 x.toNat 2 = zE (s 54 x) := (hC.2 x h0 h1).2.2.2.1
theorem zCz3 {h : zH} {s : zS} (hC : zCZ h s) {x : Int} (h0 : 0 ≤ x) (h1 : x < s 51 0) : zi h 3 x.toNat 3 = zE (s 55 x) := (hC.2 x h0 h1).2.2.2.2
def zCT (h : zH) (s : zS) : Prop := (zi h 18 0 1 = 1 ∧ (zln h 18 0 : Int) = s 58 0) ∧ ∀ t : Int, 0 ≤ t → t < s 58 0 → zr h 18 0 t.toNat = some (11, t.toNat) ∧ zi h 11 t.toNat 0 = zE (s 59 t) ∧ zi h 11 t.toNat 1 = zE (s 60 t)
theorem zCtR {h : zH} {s : zS} (hC : zCT h s) {t : Int} (h0 : 0 ≤ t) (h1 : t < s 58 0) : zr h 18 0 t.toNat = some (11, t.toNat) := (hC.2 t h0 h1).1
theorem zCt0 {h : zH} {s : zS} (hC : zCT h s) {t : Int} (h0 : 0 ≤ t) (h1 : t < s 58 0) : zi h 11 t.toNat 0 = zE (s 59 t) := (hC.2 t h0 h1).2.1
theorem zCt1 {h : zH} {s : zS} (hC : zCT h s) {t : Int} (h0 : 0 ≤ t) (h1 : t < s 58 0) : zi h 11 t.toNat 1 = zE (s 60 t) := (hC.2 t h0 h1).2.2
def zCE (h : zH) (s : zS) : Prop := (zi h 19 0 1 = 1 ∧ (zln h 19 0 : Int) = s 71 0) ∧ ∀ e : Int, 0 ≤ e → e < s 71 0 → zr h 19 0 e.toNat = some (1, e.toNat) ∧ zi h 1 e.toNat 0 = zE (s 72 e) ∧ zi h 1 e.toNat 1 = zE (s 73 e) ∧ zi h 1 e.toNat 2 = zE (s 74 e) ∧ zi h 1 e.toNat 3 = zE (s 75 e) ∧ zi h 1 e.toNat 4 = zE (s 76 e) ∧ zi h 1 e.toNat 5 = zE (s 77 e)
theorem zCeR {h : zH} {s : zS} (hC : zCE h s) {e : Int} (h0 : 0 ≤ e) (h1 : e < s 71 0) : zr h 19 0 e.toNat = some (1, e.toNat) := (hC.2 e h0 h1).1
theorem zCe0 {h : zH} {s : zS} (hC : zCE h s) {e : Int} (h0 : 0 ≤ e) (h1 : e < s 71 0) : zi h 1 e.toNat 0 = zE (s 72 e) := (hC.2 e h0 h1).2.1
theorem zCe1 {h : zH} {s : zS} (hC : zCE h s) {e : Int} (h0 : 0 ≤ e) (h1 : e < s 71 0) : zi h 1 e.toNat 1 = zE (s 73 e) := (hC.2 e h0 h1).2.2.1
theorem zCe2 {h : zH} {s : zS} (hC : zCE h s) {e : Int} (h0 : 0 ≤ e) (h1 : e < s 71 0) : zi h 1 e.toNat 2 = zE (s 74 e) := (hC.2 e h0 h1).2.2.2.1
theorem zCe3 {h : zH} {s : zS} (hC : zCE h s) {e : Int} (h0 : 0 ≤ e) (h1 : e < s 71 0) : zi h 1 e.toNat 3 = zE (s 75 e) := (hC.2 e h0 h1).2.2.2.2.1
theorem zCe4 {h : zH} {s : zS} (hC : zCE h s) {e : Int} (h0 : 0 ≤ e) (h1 : e < s 71 0) : zi h 1 e.toNat 4 = zE (s 76 e) := (hC.2 e h0 h1).2.2.2.2.2.1
theorem zCe5 {h : zH} {s : zS} (hC : zCE h s) {e : Int} (h0 : 0 ≤ e) (h1 : e < s 71 0) : zi h 1 e.toNat 5 = zE (s 77 e) := (hC.2 e h0 h1).2.2.2.2.2.2
def zCV (h : zH) (s : zS) : Prop := zln h 33 0 = 4 ∧ ∀ v : Int, 0 ≤ v → v < 4 → zr h 33 0 v.toNat = some (9, v.toNat) ∧ zr h 9 v.toNat 0 = some (27, v.toNat) ∧ zr h 9 v.toNat 1 = some (28, v.toNat) ∧ zr h 9 v.toNat 2 = some (29, v.toNat) ∧ zln h 27 v.toNat = 3 ∧ zln h 28 v.toNat = 8 ∧ zln h 29 v.toNat = 200 ∧ (∀ g : Int, 0 ≤ g → g < 3 → zr h 27 v.toNat g.toNat = some (10, (3 * v + g).toNat)) ∧ (∀ k : Int, 0 ≤ k → k < 8 → zi h 28 v.toNat k.toNat = zE (s 20 (8 * v + k))) ∧ (∀ c : Int, 0 ≤ c → c < 200 → zr h 29 v.toNat c.toNat = zrf 0 (s 18 (200 * v + c))) ∧ zi h 9 v.toNat 3 = zE (s 21 v) ∧ (s 23 v ≠ -1 → zi h 9 v.toNat 4 = zE (s 22 v)) ∧ zi h 9 v.toNat 5 = zE (s 23 v) ∧ zi h 9 v.toNat 6 = zE (s 24 v) ∧ zi h 9 v.toNat 7 = zE (s 50 v)
theorem zCvR {h : zH} {s : zS} (hC : zCV h s) {v : Int} (h0 : 0 ≤ v) (h1 : v < 4) : zr h 33 0 v.toNat = some (9, v.toNat) := (hC.2 v h0 h1).1
theorem zCv0 {h : zH} {s : zS} (hC : zCV h s) {v : Int} (h0 : 0 ≤ v) (h1 : v < 4) : zr h 9 v.toNat 0 = some (27, v.toNat) := (hC.2 v h0 h1).2.1
theorem zCv1 {h : zH} {s : zS} (hC : zCV h s) {v : Int} (h0 : 0 ≤ v) (h1 : v < 4) : zr h 9 v.toNat 1 = some (28, v.toNat) := (hC.2 v h0 h1).2.2.1
theorem zCv2 {h : zH} {s : zS} (hC : zCV h s) {v : Int} (h0 : 0 ≤ v) (h1 : v < 4) : zr h 9 v.toNat 2 = some (29, v.toNat) := (hC.2 v h0 h1).2.2.2.1
theorem zCvL0 {h : zH} {s : zS} (hC : zCV h s) {v : Int} (h0 : 0 ≤ v) (h1 : v < 4) : zln h 27 v.toNat = 3 := (hC.2 v h0 h1).2.2.2.2.1
theorem zCvL1 {h : zH} {s : zS} (hC : zCV h s) {v : Int} (h0 : 0 ≤ v) (h1 : v < 4) : zln h 28 v.toNat = 8 := (hC.2 v h0 h1).2.2.2.2.2.1
theorem zCvL2 {h : zH} {s : zS} (hC : zCV h s) {v : Int} (h0 : 0 ≤ v) (h1 : v < 4) : zln h 29 v.toNat = 200 := (hC.2 v h0 h1).2.2.2.2.2.2.1
theorem zCvS0 {h : zH} {s : zS} (hC : zCV h s) {v : Int} (h0 : 0 ≤ v) (h1 : v < 4) : (∀ g : Int, 0 ≤ g → g < 3 → zr h 27 v.toNat g.toNat = some (10, (3 * v + g).toNat)) := (hC.2 v h0 h1).2.2.2.2.2.2.2.1
theorem zCvS1 {h : zH} {s : zS} (hC : zCV h s) {v : Int} (h0 : 0 ≤ v) (h1 : v < 4) : (∀ k : Int, 0 ≤ k → k < 8 → zi h 28 v.toNat k.toNat = zE (s 20 (8 * v + k))) := (hC.2 v h0 h1).2.2.2.2.2.2.2.2.1
theorem zCvS2 {h : zH} {s : zS} (hC : zCV h s) {v : Int} (h0 : 0 ≤ v) (h1 : v < 4) : (∀ c : Int, 0 ≤ c → c < 200 → zr h 29 v.toNat c.toNat = zrf 0 (s 18 (200 * v + c))) := (hC.2 v h0 h1).2.2.2.2.2.2.2.2.2.1
theorem zCv3 {h : zH} {s : zS} (hC : zCV h s) {v : Int} (h0 : 0 ≤ v) (h1 : v < 4) : zi h 9 v.toNat 3 = zE (s 21 v) := (hC.2 v h0 h1).2.2.2.2.2.2.2.2.2.2.1
theorem zCv4 {h : zH} {s : zS} (hC : zCV h s) {v : Int} (h0 : 0 ≤ v) (h1 : v < 4) : (s 23 v ≠ -1 → zi h 9 v.toNat 4 = zE (s 22 v)) := (hC.2 v h0 h1).2.2.2.2.2.2.2.2.2.2.2.1
theorem zCv5 {h : zH} {s : zS} (hC : zCV h s) {v : Int} (h0 : 0 ≤ v) (h1 : v < 4) : zi h 9 v.toNat 5 = zE (s 23 v) := (hC.2 v h0 h1).2.2.2.2.2.2.2.2.2.2.2.2.1
theorem zCv6 {h : zH} {s : zS} (hC : zCV h s) {v : Int} (h0 : 0 ≤ v) (h1 : v < 4) : zi h 9 v.toNat 6 = zE (s 24 v) := (hC.2 v h0 h1).2.2.2.2.2.2.2.2.2.2.2.2.2.1
theorem zCv7 {h : zH} {s : zS} (hC : zCV h s) {v : Int} (h0 : 0 ≤ v) (h1 : v < 4) : zi h 9 v.toNat 7 = zE (s 50 v) := (hC.2 v h0 h1).2.2.2.2.2.2.2.2.2.2.2.2.2.2
def zCK (h : zH) (s : zS) : Prop := ∀ k : Int, 0 ≤ k → k < 12 → zr h 10 k.toNat 0 = zrf 0 (s 12 k) ∧ zr h 10 k.toNat 1 = zrf 0 (s 13 k) ∧ zi h 10 k.toNat 2 = zE (s 14 k) ∧ zi h 10 k.toNat 3 = 0 ∧ zr h 10 k.toNat 5 = some (7, k.toNat) ∧ zr h 10 k.toNat 6 = some (8, k.toNat)
theorem zCk0 {h : zH} {s : zS} (hC : zCK h s) {k : Int} (h0 : 0 ≤ k) (h1 : k < 12) : zr h 10 k.toNat 0 = zrf 0 (s 12 k) := (hC k h0 h1).1
theorem zCk1 {h : zH} {s : zS} (hC : zCK h s) {k : Int} (h0 : 0 ≤ k) (h1 : k < 12) : zr h 10 k.toNat 1 = zrf 0 (s 13 k) := (hC k h0 h1).2.1
theorem zCk2 {h : zH} {s : zS} (hC : zCK h s) {k : Int} (h0 : 0 ≤ k) (h1 : k < 12) : zi h 10 k.toNat 2 = zE (s 14 k) := (hC k h0 h1).2.2.1
theorem zCk3 {h : zH} {s : zS} (hC : zCK h s) {k : Int} (h0 : 0 ≤ k) (h1 : k < 12) : zi h 10 k.toNat 3 = 0 := (hC k h0 h1).2.2.2.1
theorem zCk5 {h : zH} {s : zS} (hC : zCK h s) {k : Int} (h0 : 0 ≤ k) (h1 : k < 12) : zr h 10 k.toNat 5 = some (7, k.toNat) := (hC k h0 h1).2.2.2.2.1
theorem zCk6 {h : zH} {s : zS} (hC : zCK h s) {k : Int} (h0 : 0 ≤ k) (h1 : k < 12) : zr h 10 k.toNat 6 = some (8, k.toNat) := (hC k h0 h1).2.2.2.2.2
def zCG (h : zH) (s : zS) : Prop := zln h 34 0 = 8 ∧ ∀ f : Int, 0 ≤ f → f < 8 → zr h 34 0 f.toNat = some (2, f.toNat) ∧ zr h 2 f.toNat 0 = some (20, f.toNat) ∧ zi h 2 f.toNat 1 = zE (s 61 f) ∧ zi h 2 f.toNat 2 = zE (s 62 f) ∧ zi h 2 f.toNat 3 = zE (s 63 f) ∧ zi h 2 f.toNat 4 = zE (s 64 f) ∧ zi h 20 f.toNat 1 = 1 ∧ (zln h 20 f.toNat : Int) = s 65 f ∧ (∀ x : Int, 0 ≤ x → x < s 65 f → ∃ i : Nat, zr h 20 f.toNat x.toNat = some (6, i) ∧ zi h 6 i 0 = zE (s 66 (4 * f + x)) ∧ zi h 6 i 1 = zE (s 67 (4 * f + x)) ∧ zi h 6 i 2 = zE (s 68 (4 * f + x)) ∧ zi h 6 i 3 = zE (s 69 (4 * f + x)))
theorem zCgR {h : zH} {s : zS} (hC : zCG h s) {f : Int} (h0 : 0 ≤ f) (h1 : f < 8) : zr h 34 0 f.toNat = some (2, f.toNat) := (hC.2 f h0 h1).1
theorem zCg0 {h : zH} {s : zS} (hC : zCG h s) {f : Int} (h0 : 0 ≤ f) (h1 : f < 8) : zr h 2 f.toNat 0 = some (20, f.toNat) := (hC.2 f h0 h1).2.1
theorem zCg1 {h : zH} {s : zS} (hC : zCG h s) {f : Int} (h0 : 0 ≤ f) (h1 : f < 8) : zi h 2 f.toNat 1 = zE (s 61 f) := (hC.2 f h0 h1).2.2.1
theorem zCg2 {h : zH} {s : zS} (hC : zCG h s) {f : Int} (h0 : 0 ≤ f) (h1 : f < 8) : zi h 2 f.toNat 2 = zE (s 62 f) := (hC.2 f h0 h1).2.2.2.1
theorem zCg3 {h : zH} {s : zS} (hC : zCG h s) {f : Int} (h0 : 0 ≤ f) (h1 : f < 8) : zi h 2 f.toNat 3 = zE (s 63 f) := (hC.2 f h0 h1).2.2.2.2.1
theorem zCg4 {h : zH} {s : zS} (hC : zCG h s) {f : Int} (h0 : 0 ≤ f) (h1 : f < 8) : zi h 2 f.toNat 4 = zE (s 64 f) := (hC.2 f h0 h1).2.2.2.2.2.1
theorem zCgO {h : zH} {s : zS} (hC : zCG h s) {f : Int} (h0 : 0 ≤ f) (h1 : f < 8) : zi h 20 f.toNat 1 = 1 := (hC.2 f h0 h1).2.2.2.2.2.2.1
theorem zCgN {h : zH} {s : zS} (hC : zCG h s) {f : Int} (h0 : 0 ≤ f) (h1 : f < 8) : (zln h 20 f.toNat : Int) = s 65 f := (hC.2 f h0 h1).2.2.2.2.2.2.2.1
theorem zCgS {h : zH} {s : zS} (hC : zCG h s) {f : Int} (h0 : 0 ≤ f) (h1 : f < 8) : (∀ x : Int, 0 ≤ x → x < s 65 f → ∃ i : Nat, zr h 20 f.toNat x.toNat = some (6, i) ∧ zi h 6 i 0 = zE (s 66 (4 * f + x)) ∧ zi h 6 i 1 = zE (s 67 (4 * f + x)) ∧ zi h 6 i 2 = zE (s 68 (4 * f + x)) ∧ zi h 6 i 3 = zE (s 69 (4 * f + x))) := (hC.2 f h0 h1).2.2.2.2.2.2.2.2
def zCX (h : zH) (s : zS) : Prop := (zln h 35 0 = 3 ∧ zln h 36 0 = 3 ∧ zln h 37 0 = 200) ∧ (∀ g : Int, 0 ≤ g → g < 3 → zi h 35 0 g.toNat = zE (s 56 (3 * g) + (2 * s 56 (3 * g + 1) + 4 * s 56 (3 * g + 2))) ∧ zi h 36 0 g.toNat = zE (s 57 g)) ∧ ∀ c : Int, 0 ≤ c → c < 200 → zi h 37 0 c.toNat = zE (s 70 c)
section ZCRD
variable {α : Type} {h : zH} {s : zS} {a : Int} {f : Nat → Nat → Option α} {fi : Int32 → Option α} {fa : zq → Option α}
theorem zlz_s {k : Nat} {n : Int} {q : zq} (e : q = some (k, 0)) (hk : (ztg k == 9) = true) (h1 : zi h k 0 1 = 1) (hn : (zln h k 0 : Int) = n) : zlz q h fi = fi (zE n) := by
  subst e
  show (if (ztg k == 9) = true then (if zi h k 0 1 = 1 then fi (nI (zln h k 0)) else none) else none) = _
  rw [if_pos hk, if_pos h1, zE_nI, hn]
theorem zlg_s {k i : Nat} {w q : zq} (e : q = some (k, i)) (hk : (ztg k == 9) = true) (h1 : zi h k i 1 = 1) (h0 : 0 ≤ a) (ha : a < zln h k i) (hn : zln h k i ≤ 33) (hw : zr h k i a.toNat = w) : zlg q (zE a) h fa = fa w := by
  subst e
  show (if (ztg k == 9) = true then (if zi h k i 1 = 1 then (if zE a < 0 ∨ zln h k i ≤ (zE a).toNatClampNeg ∨ 33 < zln h k i then none else fa (zr h k i (zE a).toNatClampNeg)) else none) else none) = _
  rw [if_pos hk, if_pos h1, zE_nat (by omega) (by omega), if_neg, hw]
  rintro (h3 | h3 | h3)
  · rw [zE_0, zE_lt (by omega) (by omega) (by omega) (by omega)] at h3
    omega
  · omega
  · omega
theorem zLAz (hr : zCr h) (hC : zCA h s) : zlz (zr h 12 0 0) h fi = fi (zE (s 2 0)) := zlz_s (zCr0 hr) rfl hC.1.1 hC.1.2
theorem zLAg (hr : zCr h) (hC : zCA h s) (hn : s 2 0 ≤ 30) (h0 : 0 ≤ a) (h1 : a < s 2 0) : zlg (zr h 12 0 0) (zE a) h fa = fa (some (0, a.toNat)) := zlg_s (zCr0 hr) rfl hC.1.1 h0 (by rw [hC.1.2]; exact h1) (by have := hC.1.2; omega) (zCaR hC h0 h1)
theorem zLPz (hr : zCr h) (hC : zCP h s) : zlz (zr h 12 0 1) h fi = fi (zE (s 25 0)) := zlz_s (zCr1 hr) rfl hC.1.1 hC.1.2
theorem zLPg (hr : zCr h) (hC : zCP h s) (hn : s 25 0 ≤ 6) (h0 : 0 ≤ a) (h1 : a < s 25 0) : zlg (zr h 12 0 1) (zE a) h fa = fa (some (4, a.toNat)) := zlg_s (zCr1 hr) rfl hC.1.1 h0 (by rw [hC.1.2]; exact h1) (by have := hC.1.2; omega) (zCpR hC h0 h1)
theorem zLRz (hr : zCr h) (hC : zCR h s) : zlz (zr h 12 0 2) h fi = fi (zE (s 30 0)) := zlz_s (zCr2 hr) rfl hC.1.1 hC.1.2
theorem zLRg (hr : zCr h) (hC : zCR h s) (hn : s 30 0 ≤ 20) (h0 : 0 ≤ a) (h1 : a < s 30 0) : zlg (zr h 12 0 2) (zE a) h fa = fa (some (5, a.toNat)) := zlg_s (zCr2 hr) rfl hC.1.1 h0 (by rw [hC.1.2]; exact h1) (by have := hC.1.2; omega) (zCrR hC h0 h1)
theorem zLZz (hr : zCr h) (hC : zCZ h s) : zlz (zr h 12 0 3) h fi = fi (zE (s 51 0)) := zlz_s (zCr3 hr) rfl hC.1.1 hC.1.2
theorem zLZg (hr : zCr h) (hC : zCZ h s) (hn : s 51 0 ≤ 8) (h0 : 0 ≤ a) (h1 : a < s 51 0) : zlg (zr h 12 0 3) (zE a) h fa = fa (some (3, a.toNat)) := zlg_s (zCr3 hr) rfl hC.1.1 h0 (by rw [hC.1.2]; exact h1) (by have := hC.1.2; omega) (zCzR hC h0 h1)
theorem zLTz (hr : zCr h) (hC : zCT h s) : zlz (zr h 12 0 4) h fi = fi (zE (s 58 0)) := zlz_s (zCr4 hr) rfl hC.1.1 hC.1.2
theorem zLTg (hr : zCr h) (hC : zCT h s) (hn : s 58 0 ≤ 6) (h0 : 0 ≤ a) (h1 : a < s 58 0) : zlg (zr h 12 0 4) (zE a) h fa = fa (some (11, a.toNat)) := zlg_s (zCr4 hr) rfl hC.1.1 h0 (by rw [hC.1.2]; exact h1) (by have := hC.1.2; omega) (zCtR hC h0 h1)
theorem zLEz (hr : zCr h) (hC : zCE h s) : zlz (zr h 12 0 5) h fi = fi (zE (s 71 0)) := zlz_s (zCr5 hr) rfl hC.1.1 hC.1.2
theorem zLEg (hr : zCr h) (hC : zCE h s) (hn : s 71 0 ≤ 8) (h0 : 0 ≤ a) (h1 : a < s 71 0) : zlg (zr h 12 0 5) (zE a) h fa = fa (some (1, a.toNat)) := zlg_s (zCr5 hr) rfl hC.1.1 h0 (by rw [hC.1.2]; exact h1) (by have := hC.1.2; omega) (zCeR hC h0 h1)
theorem zLVa (hr : zCr h) (hC : zCV h s) (h0 : 0 ≤ a) (h1 : a < 4) : zra (zr h 12 0 6) (zE a) h fa = fa (some (9, a.toNat)) := zra_s (zCr6 hr) rfl hC.1 h0 h1 (by omega) (zCvR hC h0 h1)
theorem zLFa (hr : zCr h) (hC : zCG h s) (h0 : 0 ≤ a) (h1 : a < 8) : zra (zr h 12 0 7) (zE a) h fa = fa (some (2, a.toNat)) := zra_s (zCr7 hr) rfl hC.1 h0 h1 (by omega) (zCgR hC h0 h1)
theorem zLKa {v : Int} (hC : zCV h s) (h2 : 0 ≤ v) (h3 : v < 4) (h0 : 0 ≤ a) (h1 : a < 3) : zra (zr h 9 v.toNat 0) (zE a) h fa = fa (some (10, (3 * v + a).toNat)) := zra_s (zCv0 hC h2 h3) rfl (zCvL0 hC h2 h3) h0 h1 (by omega) (zCvS0 hC h2 h3 a h0 h1)
theorem zLUi {v : Int} (hC : zCV h s) (h2 : 0 ≤ v) (h3 : v < 4) (h0 : 0 ≤ a) (h1 : a < 8) : zri (zr h 9 v.toNat 1) (zE a) h fi = fi (zE (s 20 (8 * v + a))) := zri_s (zCv1 hC h2 h3) rfl (zCvL1 hC h2 h3) h0 h1 (by omega) (zCvS1 hC h2 h3 a h0 h1)
theorem zLSa {v : Int} (hC : zCV h s) (h2 : 0 ≤ v) (h3 : v < 4) (h0 : 0 ≤ a) (h1 : a < 200) : zra (zr h 9 v.toNat 2) (zE a) h fa = fa (zrf 0 (s 18 (200 * v + a))) := zra_s (zCv2 hC h2 h3) rfl (zCvL2 hC h2 h3) h0 h1 (by omega) (zCvS2 hC h2 h3 a h0 h1)
end ZCRD

