set_option maxRecDepth 16384
/-! The model's object and its arrays: a state gives what each field holds, by the field's number and the place (printed by wip/whole/gen/model.py). -/
abbrev zS : Type := Nat → Int → Int
def zup (s : zS) (j : Nat) (a v : Int) : zS := fun j' a' => if j' = j ∧ a' = a then v else s j' a'
theorem zup_s {s : zS} {j : Nat} {a v : Int} : zup s j a v j a = v := if_pos ⟨rfl, rfl⟩
theorem zup_a {s : zS} {j : Nat} {a v b : Int} (h : b ≠ a) : zup s j a v j b = s j b := if_neg fun z => h z.2
theorem zup_j {s : zS} {j k : Nat} {a v b : Int} (h : k ≠ j) : zup s j a v k b = s k b := if_neg fun z => h z.1
def zmS : List Nat := [0, 1, 2, 19, 25, 30, 39, 43, 44, 45, 46, 51, 58, 71]
/-- its arrays: the field, the kind, how long -/
def zmA : List (Nat × Nat × Nat) := [(3, 103, 30), (4, 104, 30), (5, 105, 30), (6, 106, 30), (7, 107, 30), (8, 108, 30), (9, 109, 30), (10, 210, 30), (11, 211, 30), (12, 112, 12), (13, 113, 12), (14, 114, 12), (15, 115, 12), (16, 116, 12), (17, 117, 12), (18, 118, 800), (20, 120, 32), (21, 121, 4), (22, 122, 4), (23, 123, 4), (24, 124, 4), (26, 126, 6), (27, 127, 60), (28, 128, 60), (29, 129, 60), (31, 131, 20), (32, 132, 20), (33, 133, 20), (34, 134, 20), (35, 135, 20), (36, 136, 20), (37, 237, 20), (38, 238, 20), (40, 140, 20), (41, 241, 60), (42, 142, 60), (47, 147, 24), (48, 248, 14400), (49, 149, 14400), (50, 250, 4), (52, 152, 8), (53, 153, 8), (54, 154, 8), (55, 155, 8), (56, 256, 9), (57, 157, 3), (59, 159, 6), (60, 160, 6), (61, 161, 8), (62, 162, 8), (63, 263, 8), (64, 164, 8), (65, 165, 8), (66, 166, 32), (67, 267, 32), (68, 168, 32), (69, 169, 32), (70, 170, 200), (72, 172, 8), (73, 173, 8), (74, 174, 8), (75, 175, 8), (76, 176, 8), (77, 277, 8)]
def zMd (h : zH) (s : zS) : Prop := (∀ j ∈ zmS, zi h 13 0 j = zE (s j 0)) ∧ ∀ e ∈ zmA, zr h 13 0 e.1 = some (e.2.1, 0) ∧ zln h e.2.1 0 = e.2.2 ∧ ∀ x : Nat, x < e.2.2 → zi h e.2.1 0 x = zE (s e.1 x)
/-- all that the model has is the same -/
def zFm (h h' : zH) : Prop := (∀ k, (k = 13 ∨ 100 ≤ k) → zi h' k = zi h k ∧ zr h' k = zr h k ∧ zln h' k = zln h k)
theorem zmA_k : ∀ e ∈ zmA, 100 ≤ e.2.1 := by decide
theorem zMd.fr {h h' : zH} {s : zS} (hM : zMd h s) (hf : zFm h h') : zMd h' s := by
  obtain ⟨a1, a2, -⟩ := hf 13 (Or.inl rfl)
  refine ⟨fun j hj => ?_, fun e he => ?_⟩
  · rw [a1]
    exact hM.1 j hj
  · obtain ⟨b1, -, b3⟩ := hf e.2.1 (Or.inr (zmA_k e he))
    obtain ⟨c1, c2, c3⟩ := hM.2 e he
    exact ⟨by rw [a2]; exact c1, by rw [b3]; exact c2, fun x hx => by rw [b1]; exact c3 x hx⟩
theorem zmA_u : ∀ e ∈ zmA, ∀ e' ∈ zmA, e.2.1 = e'.2.1 → e = e' := by decide +kernel
theorem zmA_1 : ∀ e ∈ zmA, ∀ e' ∈ zmA, e.1 = e'.1 → e = e' := by decide +kernel
theorem zmA_s : ∀ e ∈ zmA, ∀ j ∈ zmS, e.1 ≠ j := by decide +kernel
/-- a scalar is written -/
theorem zMd.ws {h : zH} {s : zS} (hM : zMd h s) (j : Nat) (hj : j ∈ zmS) (v : Int) : zMd (zsi h 13 0 j (zE v)) (zup s j 0 v) := by
  refine ⟨fun j' hj' => ?_, fun e he => ?_⟩
  · show zu (zi h) 13 0 j (zE v) 13 0 j' = _
    unfold zu zup
    by_cases e : j' = j
    · rw [if_pos ⟨rfl, rfl, e⟩, if_pos ⟨e, rfl⟩]
    · rw [if_neg (fun z => e z.2.2), if_neg (fun z => e z.1)]
      exact hM.1 j' hj'
  · obtain ⟨c1, c2, c3⟩ := hM.2 e he
    refine ⟨c1, c2, fun x hx => ?_⟩
    have := zmA_k e he
    show zu (zi h) 13 0 j (zE v) e.2.1 0 x = _
    unfold zu
    rw [if_neg (fun z => by omega), zup_j (zmA_s e he j hj)]
    exact c3 x hx
/-- a place of an array is written -/
theorem zMd.wa {h : zH} {s : zS} (hM : zMd h s) (e : Nat × Nat × Nat) (he : e ∈ zmA) (a v : Int) (h0 : 0 ≤ a) : zMd (zsi h e.2.1 0 a.toNat (zE v)) (zup s e.1 a v) := by
  refine ⟨fun j' hj' => ?_, fun e' he' => ?_⟩
  · have := zmA_k e he
    show zu (zi h) e.2.1 0 a.toNat (zE v) 13 0 j' = _
    unfold zu
    rw [if_neg (fun z => by omega), zup_j (fun z => zmA_s e he j' hj' z.symm)]
    exact hM.1 j' hj'
  · obtain ⟨c1, c2, c3⟩ := hM.2 e' he'
    refine ⟨c1, c2, fun x hx => ?_⟩
    show zu (zi h) e.2.1 0 a.toNat (zE v) e'.2.1 0 x = _
    unfold zu zup
    by_cases e1 : e' = e
    · subst e1
      by_cases e2 : x = a.toNat
      · rw [if_pos ⟨rfl, rfl, e2⟩, if_pos ⟨rfl, by omega⟩]
      · rw [if_neg (fun z => e2 z.2.2), if_neg (fun z => by omega)]
        exact c3 x hx
    · rw [if_neg (fun z => e1 (zmA_u e' he' e he z.1)), if_neg (fun z => e1 (zmA_1 e' he' e he z.1))]
      exact c3 x hx
section ZMR
variable {α : Type} {h : zH} {s : zS} {a : Int} {f : Nat → Nat → Option α} {g : Nat → Nat → Nat → Option α} {f1 : Int32 → Option α}
theorem zM_ob {i : Nat} : zob 12 (some (13, i)) f = f 13 i := rfl
theorem zMs0 (hM : zMd h s) : zi h 13 0 0 = zE (s 0 0) := hM.1 0 (by decide)
theorem zMs1 (hM : zMd h s) : zi h 13 0 1 = zE (s 1 0) := hM.1 1 (by decide)
theorem zMs2 (hM : zMd h s) : zi h 13 0 2 = zE (s 2 0) := hM.1 2 (by decide)
theorem zMs19 (hM : zMd h s) : zi h 13 0 19 = zE (s 19 0) := hM.1 19 (by decide)
theorem zMs25 (hM : zMd h s) : zi h 13 0 25 = zE (s 25 0) := hM.1 25 (by decide)
theorem zMs30 (hM : zMd h s) : zi h 13 0 30 = zE (s 30 0) := hM.1 30 (by decide)
theorem zMs39 (hM : zMd h s) : zi h 13 0 39 = zE (s 39 0) := hM.1 39 (by decide)
theorem zMs43 (hM : zMd h s) : zi h 13 0 43 = zE (s 43 0) := hM.1 43 (by decide)
theorem zMs44 (hM : zMd h s) : zi h 13 0 44 = zE (s 44 0) := hM.1 44 (by decide)
theorem zMs45 (hM : zMd h s) : zi h 13 0 45 = zE (s 45 0) := hM.1 45 (by decide)
theorem zMs46 (hM : zMd h s) : zi h 13 0 46 = zE (s 46 0) := hM.1 46 (by decide)
theorem zMs51 (hM : zMd h s) : zi h 13 0 51 = zE (s 51 0) := hM.1 51 (by decide)
theorem zMs58 (hM : zMd h s) : zi h 13 0 58 = zE (s 58 0) := hM.1 58 (by decide)
theorem zMs71 (hM : zMd h s) : zi h 13 0 71 = zE (s 71 0) := hM.1 71 (by decide)
theorem zMi3 (hM : zMd h s) (h0 : 0 ≤ a) (h1 : a < 30) : zri (zr h 13 0 3) (zE a) h f1 = f1 (zE (s 3 a)) := zri_s (hM.2 (3, 103, 30) (by decide)).1 rfl (hM.2 (3, 103, 30) (by decide)).2.1 h0 (by omega) (by omega) (((hM.2 (3, 103, 30) (by decide)).2.2 a.toNat (by show a.toNat < 30; omega)).trans (by rw [Int.toNat_of_nonneg h0]))
theorem zMa3 (hM : zMd h s) (h0 : 0 ≤ a) (h1 : a < 30) : zar 1 (zr h 13 0 3) (zE a) h g = g 103 0 a.toNat := zar_s (hM.2 (3, 103, 30) (by decide)).1 rfl (hM.2 (3, 103, 30) (by decide)).2.1 h0 (by omega) (by omega)
theorem zMi4 (hM : zMd h s) (h0 : 0 ≤ a) (h1 : a < 30) : zri (zr h 13 0 4) (zE a) h f1 = f1 (zE (s 4 a)) := zri_s (hM.2 (4, 104, 30) (by decide)).1 rfl (hM.2 (4, 104, 30) (by decide)).2.1 h0 (by omega) (by omega) (((hM.2 (4, 104, 30) (by decide)).2.2 a.toNat (by show a.toNat < 30; omega)).trans (by rw [Int.toNat_of_nonneg h0]))
theorem zMa4 (hM : zMd h s) (h0 : 0 ≤ a) (h1 : a < 30) : zar 1 (zr h 13 0 4) (zE a) h g = g 104 0 a.toNat := zar_s (hM.2 (4, 104, 30) (by decide)).1 rfl (hM.2 (4, 104, 30) (by decide)).2.1 h0 (by omega) (by omega)
theorem zMi5 (hM : zMd h s) (h0 : 0 ≤ a) (h1 : a < 30) : zri (zr h 13 0 5) (zE a) h f1 = f1 (zE (s 5 a)) := zri_s (hM.2 (5, 105, 30) (by decide)).1 rfl (hM.2 (5, 105, 30) (by decide)).2.1 h0 (by omega) (by omega) (((hM.2 (5, 105, 30) (by decide)).2.2 a.toNat (by show a.toNat < 30; omega)).trans (by rw [Int.toNat_of_nonneg h0]))
theorem zMa5 (hM : zMd h s) (h0 : 0 ≤ a) (h1 : a < 30) : zar 1 (zr h 13 0 5) (zE a) h g = g 105 0 a.toNat := zar_s (hM.2 (5, 105, 30) (by decide)).1 rfl (hM.2 (5, 105, 30) (by decide)).2.1 h0 (by omega) (by omega)
theorem zMi6 (hM : zMd h s) (h0 : 0 ≤ a) (h1 : a < 30) : zri (zr h 13 0 6) (zE a) h f1 = f1 (zE (s 6 a)) := zri_s (hM.2 (6, 106, 30) (by decide)).1 rfl (hM.2 (6, 106, 30) (by decide)).2.1 h0 (by omega) (by omega) (((hM.2 (6, 106, 30) (by decide)).2.2 a.toNat (by show a.toNat < 30; omega)).trans (by rw [Int.toNat_of_nonneg h0]))
theorem zMa6 (hM : zMd h s) (h0 : 0 ≤ a) (h1 : a < 30) : zar 1 (zr h 13 0 6) (zE a) h g = g 106 0 a.toNat := zar_s (hM.2 (6, 106, 30) (by decide)).1 rfl (hM.2 (6, 106, 30) (by decide)).2.1 h0 (by omega) (by omega)
theorem zMi7 (hM : zMd h s) (h0 : 0 ≤ a) (h1 : a < 30) : zri (zr h 13 0 7) (zE a) h f1 = f1 (zE (s 7 a)) := zri_s (hM.2 (7, 107, 30) (by decide)).1 rfl (hM.2 (7, 107, 30) (by decide)).2.1 h0 (by omega) (by omega) (((hM.2 (7, 107, 30) (by decide)).2.2 a.toNat (by show a.toNat < 30; omega)).trans (by rw [Int.toNat_of_nonneg h0]))
theorem zMa7 (hM : zMd h s) (h0 : 0 ≤ a) (h1 : a < 30) : zar 1 (zr h 13 0 7) (zE a) h g = g 107 0 a.toNat := zar_s (hM.2 (7, 107, 30) (by decide)).1 rfl (hM.2 (7, 107, 30) (by decide)).2.1 h0 (by omega) (by omega)
theorem zMi8 (hM : zMd h s) (h0 : 0 ≤ a) (h1 : a < 30) : zri (zr h 13 0 8) (zE a) h f1 = f1 (zE (s 8 a)) := zri_s (hM.2 (8, 108, 30) (by decide)).1 rfl (hM.2 (8, 108, 30) (by decide)).2.1 h0 (by omega) (by omega) (((hM.2 (8, 108, 30) (by decide)).2.2 a.toNat (by show a.toNat < 30; omega)).trans (by rw [Int.toNat_of_nonneg h0]))
theorem zMa8 (hM : zMd h s) (h0 : 0 ≤ a) (h1 : a < 30) : zar 1 (zr h 13 0 8) (zE a) h g = g 108 0 a.toNat := zar_s (hM.2 (8, 108, 30) (by decide)).1 rfl (hM.2 (8, 108, 30) (by decide)).2.1 h0 (by omega) (by omega)
theorem zMi9 (hM : zMd h s) (h0 : 0 ≤ a) (h1 : a < 30) : zri (zr h 13 0 9) (zE a) h f1 = f1 (zE (s 9 a)) := zri_s (hM.2 (9, 109, 30) (by decide)).1 rfl (hM.2 (9, 109, 30) (by decide)).2.1 h0 (by omega) (by omega) (((hM.2 (9, 109, 30) (by decide)).2.2 a.toNat (by show a.toNat < 30; omega)).trans (by rw [Int.toNat_of_nonneg h0]))
theorem zMa9 (hM : zMd h s) (h0 : 0 ≤ a) (h1 : a < 30) : zar 1 (zr h 13 0 9) (zE a) h g = g 109 0 a.toNat := zar_s (hM.2 (9, 109, 30) (by decide)).1 rfl (hM.2 (9, 109, 30) (by decide)).2.1 h0 (by omega) (by omega)
theorem zMi10 (hM : zMd h s) (h0 : 0 ≤ a) (h1 : a < 30) : zrb (zr h 13 0 10) (zE a) h f1 = f1 (zE (s 10 a)) := zrb_s (hM.2 (10, 210, 30) (by decide)).1 rfl (hM.2 (10, 210, 30) (by decide)).2.1 h0 (by omega) (by omega) (((hM.2 (10, 210, 30) (by decide)).2.2 a.toNat (by show a.toNat < 30; omega)).trans (by rw [Int.toNat_of_nonneg h0]))
theorem zMa10 (hM : zMd h s) (h0 : 0 ≤ a) (h1 : a < 30) : zar 2 (zr h 13 0 10) (zE a) h g = g 210 0 a.toNat := zar_s (hM.2 (10, 210, 30) (by decide)).1 rfl (hM.2 (10, 210, 30) (by decide)).2.1 h0 (by omega) (by omega)
theorem zMi11 (hM : zMd h s) (h0 : 0 ≤ a) (h1 : a < 30) : zrb (zr h 13 0 11) (zE a) h f1 = f1 (zE (s 11 a)) := zrb_s (hM.2 (11, 211, 30) (by decide)).1 rfl (hM.2 (11, 211, 30) (by decide)).2.1 h0 (by omega) (by omega) (((hM.2 (11, 211, 30) (by decide)).2.2 a.toNat (by show a.toNat < 30; omega)).trans (by rw [Int.toNat_of_nonneg h0]))
theorem zMa11 (hM : zMd h s) (h0 : 0 ≤ a) (h1 : a < 30) : zar 2 (zr h 13 0 11) (zE a) h g = g 211 0 a.toNat := zar_s (hM.2 (11, 211, 30) (by decide)).1 rfl (hM.2 (11, 211, 30) (by decide)).2.1 h0 (by omega) (by omega)
theorem zMi12 (hM : zMd h s) (h0 : 0 ≤ a) (h1 : a < 12) : zri (zr h 13 0 12) (zE a) h f1 = f1 (zE (s 12 a)) := zri_s (hM.2 (12, 112, 12) (by decide)).1 rfl (hM.2 (12, 112, 12) (by decide)).2.1 h0 (by omega) (by omega) (((hM.2 (12, 112, 12) (by decide)).2.2 a.toNat (by show a.toNat < 12; omega)).trans (by rw [Int.toNat_of_nonneg h0]))
theorem zMa12 (hM : zMd h s) (h0 : 0 ≤ a) (h1 : a < 12) : zar 1 (zr h 13 0 12) (zE a) h g = g 112 0 a.toNat := zar_s (hM.2 (12, 112, 12) (by decide)).1 rfl (hM.2 (12, 112, 12) (by decide)).2.1 h0 (by omega) (by omega)
theorem zMi13 (hM : zMd h s) (h0 : 0 ≤ a) (h1 : a < 12) : zri (zr h 13 0 13) (zE a) h f1 = f1 (zE (s 13 a)) := zri_s (hM.2 (13, 113, 12) (by decide)).1 rfl (hM.2 (13, 113, 12) (by decide)).2.1 h0 (by omega) (by omega) (((hM.2 (13, 113, 12) (by decide)).2.2 a.toNat (by show a.toNat < 12; omega)).trans (by rw [Int.toNat_of_nonneg h0]))
theorem zMa13 (hM : zMd h s) (h0 : 0 ≤ a) (h1 : a < 12) : zar 1 (zr h 13 0 13) (zE a) h g = g 113 0 a.toNat := zar_s (hM.2 (13, 113, 12) (by decide)).1 rfl (hM.2 (13, 113, 12) (by decide)).2.1 h0 (by omega) (by omega)
theorem zMi14 (hM : zMd h s) (h0 : 0 ≤ a) (h1 : a < 12) : zri (zr h 13 0 14) (zE a) h f1 = f1 (zE (s 14 a)) := zri_s (hM.2 (14, 114, 12) (by decide)).1 rfl (hM.2 (14, 114, 12) (by decide)).2.1 h0 (by omega) (by omega) (((hM.2 (14, 114, 12) (by decide)).2.2 a.toNat (by show a.toNat < 12; omega)).trans (by rw [Int.toNat_of_nonneg h0]))
theorem zMa14 (hM : zMd h s) (h0 : 0 ≤ a) (h1 : a < 12) : zar 1 (zr h 13 0 14) (zE a) h g = g 114 0 a.toNat := zar_s (hM.2 (14, 114, 12) (by decide)).1 rfl (hM.2 (14, 114, 12) (by decide)).2.1 h0 (by omega) (by omega)
theorem zMi15 (hM : zMd h s) (h0 : 0 ≤ a) (h1 : a < 12) : zri (zr h 13 0 15) (zE a) h f1 = f1 (zE (s 15 a)) := zri_s (hM.2 (15, 115, 12) (by decide)).1 rfl (hM.2 (15, 115, 12) (by decide)).2.1 h0 (by omega) (by omega) (((hM.2 (15, 115, 12) (by decide)).2.2 a.toNat (by show a.toNat < 12; omega)).trans (by rw [Int.toNat_of_nonneg h0]))
theorem zMa15 (hM : zMd h s) (h0 : 0 ≤ a) (h1 : a < 12) : zar 1 (zr h 13 0 15) (zE a) h g = g 115 0 a.toNat := zar_s (hM.2 (15, 115, 12) (by decide)).1 rfl (hM.2 (15, 115, 12) (by decide)).2.1 h0 (by omega) (by omega)
theorem zMi16 (hM : zMd h s) (h0 : 0 ≤ a) (h1 : a < 12) : zri (zr h 13 0 16) (zE a) h f1 = f1 (zE (s 16 a)) := zri_s (hM.2 (16, 116, 12) (by decide)).1 rfl (hM.2 (16, 116, 12) (by decide)).2.1 h0 (by omega) (by omega) (((hM.2 (16, 116, 12) (by decide)).2.2 a.toNat (by show a.toNat < 12; omega)).trans (by rw [Int.toNat_of_nonneg h0]))
theorem zMa16 (hM : zMd h s) (h0 : 0 ≤ a) (h1 : a < 12) : zar 1 (zr h 13 0 16) (zE a) h g = g 116 0 a.toNat := zar_s (hM.2 (16, 116, 12) (by decide)).1 rfl (hM.2 (16, 116, 12) (by decide)).2.1 h0 (by omega) (by omega)
theorem zMi17 (hM : zMd h s) (h0 : 0 ≤ a) (h1 : a < 12) : zri (zr h 13 0 17) (zE a) h f1 = f1 (zE (s 17 a)) := zri_s (hM.2 (17, 117, 12) (by decide)).1 rfl (hM.2 (17, 117, 12) (by decide)).2.1 h0 (by omega) (by omega) (((hM.2 (17, 117, 12) (by decide)).2.2 a.toNat (by show a.toNat < 12; omega)).trans (by rw [Int.toNat_of_nonneg h0]))
theorem zMa17 (hM : zMd h s) (h0 : 0 ≤ a) (h1 : a < 12) : zar 1 (zr h 13 0 17) (zE a) h g = g 117 0 a.toNat := zar_s (hM.2 (17, 117, 12) (by decide)).1 rfl (hM.2 (17, 117, 12) (by decide)).2.1 h0 (by omega) (by omega)
theorem zMi18 (hM : zMd h s) (h0 : 0 ≤ a) (h1 : a < 800) : zri (zr h 13 0 18) (zE a) h f1 = f1 (zE (s 18 a)) := zri_s (hM.2 (18, 118, 800) (by decide)).1 rfl (hM.2 (18, 118, 800) (by decide)).2.1 h0 (by omega) (by omega) (((hM.2 (18, 118, 800) (by decide)).2.2 a.toNat (by show a.toNat < 800; omega)).trans (by rw [Int.toNat_of_nonneg h0]))
theorem zMa18 (hM : zMd h s) (h0 : 0 ≤ a) (h1 : a < 800) : zar 1 (zr h 13 0 18) (zE a) h g = g 118 0 a.toNat := zar_s (hM.2 (18, 118, 800) (by decide)).1 rfl (hM.2 (18, 118, 800) (by decide)).2.1 h0 (by omega) (by omega)
theorem zMi20 (hM : zMd h s) (h0 : 0 ≤ a) (h1 : a < 32) : zri (zr h 13 0 20) (zE a) h f1 = f1 (zE (s 20 a)) := zri_s (hM.2 (20, 120, 32) (by decide)).1 rfl (hM.2 (20, 120, 32) (by decide)).2.1 h0 (by omega) (by omega) (((hM.2 (20, 120, 32) (by decide)).2.2 a.toNat (by show a.toNat < 32; omega)).trans (by rw [Int.toNat_of_nonneg h0]))
theorem zMa20 (hM : zMd h s) (h0 : 0 ≤ a) (h1 : a < 32) : zar 1 (zr h 13 0 20) (zE a) h g = g 120 0 a.toNat := zar_s (hM.2 (20, 120, 32) (by decide)).1 rfl (hM.2 (20, 120, 32) (by decide)).2.1 h0 (by omega) (by omega)
theorem zMi21 (hM : zMd h s) (h0 : 0 ≤ a) (h1 : a < 4) : zri (zr h 13 0 21) (zE a) h f1 = f1 (zE (s 21 a)) := zri_s (hM.2 (21, 121, 4) (by decide)).1 rfl (hM.2 (21, 121, 4) (by decide)).2.1 h0 (by omega) (by omega) (((hM.2 (21, 121, 4) (by decide)).2.2 a.toNat (by show a.toNat < 4; omega)).trans (by rw [Int.toNat_of_nonneg h0]))
theorem zMa21 (hM : zMd h s) (h0 : 0 ≤ a) (h1 : a < 4) : zar 1 (zr h 13 0 21) (zE a) h g = g 121 0 a.toNat := zar_s (hM.2 (21, 121, 4) (by decide)).1 rfl (hM.2 (21, 121, 4) (by decide)).2.1 h0 (by omega) (by omega)
theorem zMi22 (hM : zMd h s) (h0 : 0 ≤ a) (h1 : a < 4) : zri (zr h 13 0 22) (zE a) h f1 = f1 (zE (s 22 a)) := zri_s (hM.2 (22, 122, 4) (by decide)).1 rfl (hM.2 (22, 122, 4) (by decide)).2.1 h0 (by omega) (by omega) (((hM.2 (22, 122, 4) (by decide)).2.2 a.toNat (by show a.toNat < 4; omega)).trans (by rw [Int.toNat_of_nonneg h0]))
theorem zMa22 (hM : zMd h s) (h0 : 0 ≤ a) (h1 : a < 4) : zar 1 (zr h 13 0 22) (zE a) h g = g 122 0 a.toNat := zar_s (hM.2 (22, 122, 4) (by decide)).1 rfl (hM.2 (22, 122, 4) (by decide)).2.1 h0 (by omega) (by omega)
theorem zMi23 (hM : zMd h s) (h0 : 0 ≤ a) (h1 : a < 4) : zri (zr h 13 0 23) (zE a) h f1 = f1 (zE (s 23 a)) := zri_s (hM.2 (23, 123, 4) (by decide)).1 rfl (hM.2 (23, 123, 4) (by decide)).2.1 h0 (by omega) (by omega) (((hM.2 (23, 123, 4) (by decide)).2.2 a.toNat (by show a.toNat < 4; omega)).trans (by rw [Int.toNat_of_nonneg h0]))
theorem zMa23 (hM : zMd h s) (h0 : 0 ≤ a) (h1 : a < 4) : zar 1 (zr h 13 0 23) (zE a) h g = g 123 0 a.toNat := zar_s (hM.2 (23, 123, 4) (by decide)).1 rfl (hM.2 (23, 123, 4) (by decide)).2.1 h0 (by omega) (by omega)
theorem zMi24 (hM : zMd h s) (h0 : 0 ≤ a) (h1 : a < 4) : zri (zr h 13 0 24) (zE a) h f1 = f1 (zE (s 24 a)) := zri_s (hM.2 (24, 124, 4) (by decide)).1 rfl (hM.2 (24, 124, 4) (by decide)).2.1 h0 (by omega) (by omega) (((hM.2 (24, 124, 4) (by decide)).2.2 a.toNat (by show a.toNat < 4; omega)).trans (by rw [Int.toNat_of_nonneg h0]))
theorem zMa24 (hM : zMd h s) (h0 : 0 ≤ a) (h1 : a < 4) : zar 1 (zr h 13 0 24) (zE a) h g = g 124 0 a.toNat := zar_s (hM.2 (24, 124, 4) (by decide)).1 rfl (hM.2 (24, 124, 4) (by decide)).2.1 h0 (by omega) (by omega)
theorem zMi26 (hM : zMd h s) (h0 : 0 ≤ a) (h1 : a < 6) : zri (zr h 13 0 26) (zE a) h f1 = f1 (zE (s 26 a)) := zri_s (hM.2 (26, 126, 6) (by decide)).1 rfl (hM.2 (26, 126, 6) (by decide)).2.1 h0 (by omega) (by omega) (((hM.2 (26, 126, 6) (by decide)).2.2 a.toNat (by show a.toNat < 6; omega)).trans (by rw [Int.toNat_of_nonneg h0]))
theorem zMa26 (hM : zMd h s) (h0 : 0 ≤ a) (h1 : a < 6) : zar 1 (zr h 13 0 26) (zE a) h g = g 126 0 a.toNat := zar_s (hM.2 (26, 126, 6) (by decide)).1 rfl (hM.2 (26, 126, 6) (by decide)).2.1 h0 (by omega) (by omega)
theorem zMi27 (hM : zMd h s) (h0 : 0 ≤ a) (h1 : a < 60) : zri (zr h 13 0 27) (zE a) h f1 = f1 (zE (s 27 a)) := zri_s (hM.2 (27, 127, 60) (by decide)).1 rfl (hM.2 (27, 127, 60) (by decide)).2.1 h0 (by omega) (by omega) (((hM.2 (27, 127, 60) (by decide)).2.2 a.toNat (by show a.toNat < 60; omega)).trans (by rw [Int.toNat_of_nonneg h0]))
theorem zMa27 (hM : zMd h s) (h0 : 0 ≤ a) (h1 : a < 60) : zar 1 (zr h 13 0 27) (zE a) h g = g 127 0 a.toNat := zar_s (hM.2 (27, 127, 60) (by decide)).1 rfl (hM.2 (27, 127, 60) (by decide)).2.1 h0 (by omega) (by omega)
theorem zMi28 (hM : zMd h s) (h0 : 0 ≤ a) (h1 : a < 60) : zri (zr h 13 0 28) (zE a) h f1 = f1 (zE (s 28 a)) := zri_s (hM.2 (28, 128, 60) (by decide)).1 rfl (hM.2 (28, 128, 60) (by decide)).2.1 h0 (by omega) (by omega) (((hM.2 (28, 128, 60) (by decide)).2.2 a.toNat (by show a.toNat < 60; omega)).trans (by rw [Int.toNat_of_nonneg h0]))
theorem zMa28 (hM : zMd h s) (h0 : 0 ≤ a) (h1 : a < 60) : zar 1 (zr h 13 0 28) (zE a) h g = g 128 0 a.toNat := zar_s (hM.2 (28, 128, 60) (by decide)).1 rfl (hM.2 (28, 128, 60) (by decide)).2.1 h0 (by omega) (by omega)
theorem zMi29 (hM : zMd h s) (h0 : 0 ≤ a) (h1 : a < 60) : zri (zr h 13 0 29) (zE a) h f1 = f1 (zE (s 29 a)) := zri_s (hM.2 (29, 129, 60) (by decide)).1 rfl (hM.2 (29, 129, 60) (by decide)).2.1 h0 (by omega) (by omega) (((hM.2 (29, 129, 60) (by decide)).2.2 a.toNat (by show a.toNat < 60; omega)).trans (by rw [Int.toNat_of_nonneg h0]))
theorem zMa29 (hM : zMd h s) (h0 : 0 ≤ a) (h1 : a < 60) : zar 1 (zr h 13 0 29) (zE a) h g = g 129 0 a.toNat := zar_s (hM.2 (29, 129, 60) (by decide)).1 rfl (hM.2 (29, 129, 60) (by decide)).2.1 h0 (by omega) (by omega)
theorem zMi31 (hM : zMd h s) (h0 : 0 ≤ a) (h1 : a < 20) : zri (zr h 13 0 31) (zE a) h f1 = f1 (zE (s 31 a)) := zri_s (hM.2 (31, 131, 20) (by decide)).1 rfl (hM.2 (31, 131, 20) (by decide)).2.1 h0 (by omega) (by omega) (((hM.2 (31, 131, 20) (by decide)).2.2 a.toNat (by show a.toNat < 20; omega)).trans (by rw [Int.toNat_of_nonneg h0]))
theorem zMa31 (hM : zMd h s) (h0 : 0 ≤ a) (h1 : a < 20) : zar 1 (zr h 13 0 31) (zE a) h g = g 131 0 a.toNat := zar_s (hM.2 (31, 131, 20) (by decide)).1 rfl (hM.2 (31, 131, 20) (by decide)).2.1 h0 (by omega) (by omega)
theorem zMi32 (hM : zMd h s) (h0 : 0 ≤ a) (h1 : a < 20) : zri (zr h 13 0 32) (zE a) h f1 = f1 (zE (s 32 a)) := zri_s (hM.2 (32, 132, 20) (by decide)).1 rfl (hM.2 (32, 132, 20) (by decide)).2.1 h0 (by omega) (by omega) (((hM.2 (32, 132, 20) (by decide)).2.2 a.toNat (by show a.toNat < 20; omega)).trans (by rw [Int.toNat_of_nonneg h0]))
theorem zMa32 (hM : zMd h s) (h0 : 0 ≤ a) (h1 : a < 20) : zar 1 (zr h 13 0 32) (zE a) h g = g 132 0 a.toNat := zar_s (hM.2 (32, 132, 20) (by decide)).1 rfl (hM.2 (32, 132, 20) (by decide)).2.1 h0 (by omega) (by omega)
theorem zMi33 (hM : zMd h s) (h0 : 0 ≤ a) (h1 : a < 20) : zri (zr h 13 0 33) (zE a) h f1 = f1 (zE (s 33 a)) := zri_s (hM.2 (33, 133, 20) (by decide)).1 rfl (hM.2 (33, 133, 20) (by decide)).2.1 h0 (by omega) (by omega) (((hM.2 (33, 133, 20) (by decide)).2.2 a.toNat (by show a.toNat < 20; omega)).trans (by rw [Int.toNat_of_nonneg h0]))
theorem zMa33 (hM : zMd h s) (h0 : 0 ≤ a) (h1 : a < 20) : zar 1 (zr h 13 0 33) (zE a) h g = g 133 0 a.toNat := zar_s (hM.2 (33, 133, 20) (by decide)).1 rfl (hM.2 (33, 133, 20) (by decide)).2.1 h0 (by omega) (by omega)
theorem zMi34 (hM : zMd h s) (h0 : 0 ≤ a) (h1 : a < 20) : zri (zr h 13 0 34) (zE a) h f1 = f1 (zE (s 34 a)) := zri_s (hM.2 (34, 134, 20) (by decide)).1 rfl (hM.2 (34, 134, 20) (by decide)).2.1 h0 (by omega) (by omega) (((hM.2 (34, 134, 20) (by decide)).2.2 a.toNat (by show a.toNat < 20; omega)).trans (by rw [Int.toNat_of_nonneg h0]))
theorem zMa34 (hM : zMd h s) (h0 : 0 ≤ a) (h1 : a < 20) : zar 1 (zr h 13 0 34) (zE a) h g = g 134 0 a.toNat := zar_s (hM.2 (34, 134, 20) (by decide)).1 rfl (hM.2 (34, 134, 20) (by decide)).2.1 h0 (by omega) (by omega)
theorem zMi35 (hM : zMd h s) (h0 : 0 ≤ a) (h1 : a < 20) : zri (zr h 13 0 35) (zE a) h f1 = f1 (zE (s 35 a)) := zri_s (hM.2 (35, 135, 20) (by decide)).1 rfl (hM.2 (35, 135, 20) (by decide)).2.1 h0 (by omega) (by omega) (((hM.2 (35, 135, 20) (by decide)).2.2 a.toNat (by show a.toNat < 20; omega)).trans (by rw [Int.toNat_of_nonneg h0]))
theorem zMa35 (hM : zMd h s) (h0 : 0 ≤ a) (h1 : a < 20) : zar 1 (zr h 13 0 35) (zE a) h g = g 135 0 a.toNat := zar_s (hM.2 (35, 135, 20) (by decide)).1 rfl (hM.2 (35, 135, 20) (by decide)).2.1 h0 (by omega) (by omega)
theorem zMi36 (hM : zMd h s) (h0 : 0 ≤ a) (h1 : a < 20) : zri (zr h 13 0 36) (zE a) h f1 = f1 (zE (s 36 a)) := zri_s (hM.2 (36, 136, 20) (by decide)).1 rfl (hM.2 (36, 136, 20) (by decide)).2.1 h0 (by omega) (by omega) (((hM.2 (36, 136, 20) (by decide)).2.2 a.toNat (by show a.toNat < 20; omega)).trans (by rw [Int.toNat_of_nonneg h0]))
theorem zMa36 (hM : zMd h s) (h0 : 0 ≤ a) (h1 : a < 20) : zar 1 (zr h 13 0 36) (zE a) h g = g 136 0 a.toNat := zar_s (hM.2 (36, 136, 20) (by decide)).1 rfl (hM.2 (36, 136, 20) (by decide)).2.1 h0 (by omega) (by omega)
theorem zMi37 (hM : zMd h s) (h0 : 0 ≤ a) (h1 : a < 20) : zrb (zr h 13 0 37) (zE a) h f1 = f1 (zE (s 37 a)) := zrb_s (hM.2 (37, 237, 20) (by decide)).1 rfl (hM.2 (37, 237, 20) (by decide)).2.1 h0 (by omega) (by omega) (((hM.2 (37, 237, 20) (by decide)).2.2 a.toNat (by show a.toNat < 20; omega)).trans (by rw [Int.toNat_of_nonneg h0]))
theorem zMa37 (hM : zMd h s) (h0 : 0 ≤ a) (h1 : a < 20) : zar 2 (zr h 13 0 37) (zE a) h g = g 237 0 a.toNat := zar_s (hM.2 (37, 237, 20) (by decide)).1 rfl (hM.2 (37, 237, 20) (by decide)).2.1 h0 (by omega) (by omega)
theorem zMi38 (hM : zMd h s) (h0 : 0 ≤ a) (h1 : a < 20) : zrb (zr h 13 0 38) (zE a) h f1 = f1 (zE (s 38 a)) := zrb_s (hM.2 (38, 238, 20) (by decide)).1 rfl (hM.2 (38, 238, 20) (by decide)).2.1 h0 (by omega) (by omega) (((hM.2 (38, 238, 20) (by decide)).2.2 a.toNat (by show a.toNat < 20; omega)).trans (by rw [Int.toNat_of_nonneg h0]))
theorem zMa38 (hM : zMd h s) (h0 : 0 ≤ a) (h1 : a < 20) : zar 2 (zr h 13 0 38) (zE a) h g = g 238 0 a.toNat := zar_s (hM.2 (38, 238, 20) (by decide)).1 rfl (hM.2 (38, 238, 20) (by decide)).2.1 h0 (by omega) (by omega)
theorem zMi40 (hM : zMd h s) (h0 : 0 ≤ a) (h1 : a < 20) : zri (zr h 13 0 40) (zE a) h f1 = f1 (zE (s 40 a)) := zri_s (hM.2 (40, 140, 20) (by decide)).1 rfl (hM.2 (40, 140, 20) (by decide)).2.1 h0 (by omega) (by omega) (((hM.2 (40, 140, 20) (by decide)).2.2 a.toNat (by show a.toNat < 20; omega)).trans (by rw [Int.toNat_of_nonneg h0]))
theorem zMa40 (hM : zMd h s) (h0 : 0 ≤ a) (h1 : a < 20) : zar 1 (zr h 13 0 40) (zE a) h g = g 140 0 a.toNat := zar_s (hM.2 (40, 140, 20) (by decide)).1 rfl (hM.2 (40, 140, 20) (by decide)).2.1 h0 (by omega) (by omega)
theorem zMi41 (hM : zMd h s) (h0 : 0 ≤ a) (h1 : a < 60) : zrb (zr h 13 0 41) (zE a) h f1 = f1 (zE (s 41 a)) := zrb_s (hM.2 (41, 241, 60) (by decide)).1 rfl (hM.2 (41, 241, 60) (by decide)).2.1 h0 (by omega) (by omega) (((hM.2 (41, 241, 60) (by decide)).2.2 a.toNat (by show a.toNat < 60; omega)).trans (by rw [Int.toNat_of_nonneg h0]))
theorem zMa41 (hM : zMd h s) (h0 : 0 ≤ a) (h1 : a < 60) : zar 2 (zr h 13 0 41) (zE a) h g = g 241 0 a.toNat := zar_s (hM.2 (41, 241, 60) (by decide)).1 rfl (hM.2 (41, 241, 60) (by decide)).2.1 h0 (by omega) (by omega)
theorem zMi42 (hM : zMd h s) (h0 : 0 ≤ a) (h1 : a < 60) : zri (zr h 13 0 42) (zE a) h f1 = f1 (zE (s 42 a)) := zri_s (hM.2 (42, 142, 60) (by decide)).1 rfl (hM.2 (42, 142, 60) (by decide)).2.1 h0 (by omega) (by omega) (((hM.2 (42, 142, 60) (by decide)).2.2 a.toNat (by show a.toNat < 60; omega)).trans (by rw [Int.toNat_of_nonneg h0]))
theorem zMa42 (hM : zMd h s) (h0 : 0 ≤ a) (h1 : a < 60) : zar 1 (zr h 13 0 42) (zE a) h g = g 142 0 a.toNat := zar_s (hM.2 (42, 142, 60) (by decide)).1 rfl (hM.2 (42, 142, 60) (by decide)).2.1 h0 (by omega) (by omega)
theorem zMi47 (hM : zMd h s) (h0 : 0 ≤ a) (h1 : a < 24) : zri (zr h 13 0 47) (zE a) h f1 = f1 (zE (s 47 a)) := zri_s (hM.2 (47, 147, 24) (by decide)).1 rfl (hM.2 (47, 147, 24) (by decide)).2.1 h0 (by omega) (by omega) (((hM.2 (47, 147, 24) (by decide)).2.2 a.toNat (by show a.toNat < 24; omega)).trans (by rw [Int.toNat_of_nonneg h0]))
theorem zMa47 (hM : zMd h s) (h0 : 0 ≤ a) (h1 : a < 24) : zar 1 (zr h 13 0 47) (zE a) h g = g 147 0 a.toNat := zar_s (hM.2 (47, 147, 24) (by decide)).1 rfl (hM.2 (47, 147, 24) (by decide)).2.1 h0 (by omega) (by omega)
theorem zMi48 (hM : zMd h s) (h0 : 0 ≤ a) (h1 : a < 14400) : zrb (zr h 13 0 48) (zE a) h f1 = f1 (zE (s 48 a)) := zrb_s (hM.2 (48, 248, 14400) (by decide)).1 rfl (hM.2 (48, 248, 14400) (by decide)).2.1 h0 (by omega) (by omega) (((hM.2 (48, 248, 14400) (by decide)).2.2 a.toNat (by show a.toNat < 14400; omega)).trans (by rw [Int.toNat_of_nonneg h0]))
theorem zMa48 (hM : zMd h s) (h0 : 0 ≤ a) (h1 : a < 14400) : zar 2 (zr h 13 0 48) (zE a) h g = g 248 0 a.toNat := zar_s (hM.2 (48, 248, 14400) (by decide)).1 rfl (hM.2 (48, 248, 14400) (by decide)).2.1 h0 (by omega) (by omega)
theorem zMi49 (hM : zMd h s) (h0 : 0 ≤ a) (h1 : a < 14400) : zri (zr h 13 0 49) (zE a) h f1 = f1 (zE (s 49 a)) := zri_s (hM.2 (49, 149, 14400) (by decide)).1 rfl (hM.2 (49, 149, 14400) (by decide)).2.1 h0 (by omega) (by omega) (((hM.2 (49, 149, 14400) (by decide)).2.2 a.toNat (by show a.toNat < 14400; omega)).trans (by rw [Int.toNat_of_nonneg h0]))
theorem zMa49 (hM : zMd h s) (h0 : 0 ≤ a) (h1 : a < 14400) : zar 1 (zr h 13 0 49) (zE a) h g = g 149 0 a.toNat := zar_s (hM.2 (49, 149, 14400) (by decide)).1 rfl (hM.2 (49, 149, 14400) (by decide)).2.1 h0 (by omega) (by omega)
theorem zMi50 (hM : zMd h s) (h0 : 0 ≤ a) (h1 : a < 4) : zrb (zr h 13 0 50) (zE a) h f1 = f1 (zE (s 50 a)) := zrb_s (hM.2 (50, 250, 4) (by decide)).1 rfl (hM.2 (50, 250, 4) (by decide)).2.1 h0 (by omega) (by omega) (((hM.2 (50, 250, 4) (by decide)).2.2 a.toNat (by show a.toNat < 4; omega)).trans (by rw [Int.toNat_of_nonneg h0]))
theorem zMa50 (hM : zMd h s) (h0 : 0 ≤ a) (h1 : a < 4) : zar 2 (zr h 13 0 50) (zE a) h g = g 250 0 a.toNat := zar_s (hM.2 (50, 250, 4) (by decide)).1 rfl (hM.2 (50, 250, 4) (by decide)).2.1 h0 (by omega) (by omega)
theorem zMi52 (hM : zMd h s) (h0 : 0 ≤ a) (h1 : a < 8) : zri (zr h 13 0 52) (zE a) h f1 = f1 (zE (s 52 a)) := zri_s (hM.2 (52, 152, 8) (by decide)).1 rfl (hM.2 (52, 152, 8) (by decide)).2.1 h0 (by omega) (by omega) (((hM.2 (52, 152, 8) (by decide)).2.2 a.toNat (by show a.toNat < 8; omega)).trans (by rw [Int.toNat_of_nonneg h0]))
theorem zMa52 (hM : zMd h s) (h0 : 0 ≤ a) (h1 : a < 8) : zar 1 (zr h 13 0 52) (zE a) h g = g 152 0 a.toNat := zar_s (hM.2 (52, 152, 8) (by decide)).1 rfl (hM.2 (52, 152, 8) (by decide)).2.1 h0 (by omega) (by omega)
theorem zMi53 (hM : zMd h s) (h0 : 0 ≤ a) (h1 : a < 8) : zri (zr h 13 0 53) (zE a) h f1 = f1 (zE (s 53 a)) := zri_s (hM.2 (53, 153, 8) (by decide)).1 rfl (hM.2 (53, 153, 8) (by decide)).2.1 h0 (by omega) (by omega) (((hM.2 (53, 153, 8) (by decide)).2.2 a.toNat (by show a.toNat < 8; omega)).trans (by rw [Int.toNat_of_nonneg h0]))
theorem zMa53 (hM : zMd h s) (h0 : 0 ≤ a) (h1 : a < 8) : zar 1 (zr h 13 0 53) (zE a) h g = g 153 0 a.toNat := zar_s (hM.2 (53, 153, 8) (by decide)).1 rfl (hM.2 (53, 153, 8) (by decide)).2.1 h0 (by omega) (by omega)
theorem zMi54 (hM : zMd h s) (h0 : 0 ≤ a) (h1 : a < 8) : zri (zr h 13 0 54) (zE a) h f1 = f1 (zE (s 54 a)) := zri_s (hM.2 (54, 154, 8) (by decide)).1 rfl (hM.2 (54, 154, 8) (by decide)).2.1 h0 (by omega) (by omega) (((hM.2 (54, 154, 8) (by decide)).2.2 a.toNat (by show a.toNat < 8; omega)).trans (by rw [Int.toNat_of_nonneg h0]))
theorem zMa54 (hM : zMd h s) (h0 : 0 ≤ a) (h1 : a < 8) : zar 1 (zr h 13 0 54) (zE a) h g = g 154 0 a.toNat := zar_s (hM.2 (54, 154, 8) (by decide)).1 rfl (hM.2 (54, 154, 8) (by decide)).2.1 h0 (by omega) (by omega)
theorem zMi55 (hM : zMd h s) (h0 : 0 ≤ a) (h1 : a < 8) : zri (zr h 13 0 55) (zE a) h f1 = f1 (zE (s 55 a)) := zri_s (hM.2 (55, 155, 8) (by decide)).1 rfl (hM.2 (55, 155, 8) (by decide)).2.1 h0 (by omega) (by omega) (((hM.2 (55, 155, 8) (by decide)).2.2 a.toNat (by show a.toNat < 8; omega)).trans (by rw [Int.toNat_of_nonneg h0]))
theorem zMa55 (hM : zMd h s) (h0 : 0 ≤ a) (h1 : a < 8) : zar 1 (zr h 13 0 55) (zE a) h g = g 155 0 a.toNat := zar_s (hM.2 (55, 155, 8) (by decide)).1 rfl (hM.2 (55, 155, 8) (by decide)).2.1 h0 (by omega) (by omega)
theorem zMi56 (hM : zMd h s) (h0 : 0 ≤ a) (h1 : a < 9) : zrb (zr h 13 0 56) (zE a) h f1 = f1 (zE (s 56 a)) := zrb_s (hM.2 (56, 256, 9) (by decide)).1 rfl (hM.2 (56, 256, 9) (by decide)).2.1 h0 (by omega) (by omega) (((hM.2 (56, 256, 9) (by decide)).2.2 a.toNat (by show a.toNat < 9; omega)).trans (by rw [Int.toNat_of_nonneg h0]))
theorem zMa56 (hM : zMd h s) (h0 : 0 ≤ a) (h1 : a < 9) : zar 2 (zr h 13 0 56) (zE a) h g = g 256 0 a.toNat := zar_s (hM.2 (56, 256, 9) (by decide)).1 rfl (hM.2 (56, 256, 9) (by decide)).2.1 h0 (by omega) (by omega)
theorem zMi57 (hM : zMd h s) (h0 : 0 ≤ a) (h1 : a < 3) : zri (zr h 13 0 57) (zE a) h f1 = f1 (zE (s 57 a)) := zri_s (hM.2 (57, 157, 3) (by decide)).1 rfl (hM.2 (57, 157, 3) (by decide)).2.1 h0 (by omega) (by omega) (((hM.2 (57, 157, 3) (by decide)).2.2 a.toNat (by show a.toNat < 3; omega)).trans (by rw [Int.toNat_of_nonneg h0]))
theorem zMa57 (hM : zMd h s) (h0 : 0 ≤ a) (h1 : a < 3) : zar 1 (zr h 13 0 57) (zE a) h g = g 157 0 a.toNat := zar_s (hM.2 (57, 157, 3) (by decide)).1 rfl (hM.2 (57, 157, 3) (by decide)).2.1 h0 (by omega) (by omega)
theorem zMi59 (hM : zMd h s) (h0 : 0 ≤ a) (h1 : a < 6) : zri (zr h 13 0 59) (zE a) h f1 = f1 (zE (s 59 a)) := zri_s (hM.2 (59, 159, 6) (by decide)).1 rfl (hM.2 (59, 159, 6) (by decide)).2.1 h0 (by omega) (by omega) (((hM.2 (59, 159, 6) (by decide)).2.2 a.toNat (by show a.toNat < 6; omega)).trans (by rw [Int.toNat_of_nonneg h0]))
theorem zMa59 (hM : zMd h s) (h0 : 0 ≤ a) (h1 : a < 6) : zar 1 (zr h 13 0 59) (zE a) h g = g 159 0 a.toNat := zar_s (hM.2 (59, 159, 6) (by decide)).1 rfl (hM.2 (59, 159, 6) (by decide)).2.1 h0 (by omega) (by omega)
theorem zMi60 (hM : zMd h s) (h0 : 0 ≤ a) (h1 : a < 6) : zri (zr h 13 0 60) (zE a) h f1 = f1 (zE (s 60 a)) := zri_s (hM.2 (60, 160, 6) (by decide)).1 rfl (hM.2 (60, 160, 6) (by decide)).2.1 h0 (by omega) (by omega) (((hM.2 (60, 160, 6) (by decide)).2.2 a.toNat (by show a.toNat < 6; omega)).trans (by rw [Int.toNat_of_nonneg h0]))
theorem zMa60 (hM : zMd h s) (h0 : 0 ≤ a) (h1 : a < 6) : zar 1 (zr h 13 0 60) (zE a) h g = g 160 0 a.toNat := zar_s (hM.2 (60, 160, 6) (by decide)).1 rfl (hM.2 (60, 160, 6) (by decide)).2.1 h0 (by omega) (by omega)
theorem zMi61 (hM : zMd h s) (h0 : 0 ≤ a) (h1 : a < 8) : zri (zr h 13 0 61) (zE a) h f1 = f1 (zE (s 61 a)) := zri_s (hM.2 (61, 161, 8) (by decide)).1 rfl (hM.2 (61, 161, 8) (by decide)).2.1 h0 (by omega) (by omega) (((hM.2 (61, 161, 8) (by decide)).2.2 a.toNat (by show a.toNat < 8; omega)).trans (by rw [Int.toNat_of_nonneg h0]))
theorem zMa61 (hM : zMd h s) (h0 : 0 ≤ a) (h1 : a < 8) : zar 1 (zr h 13 0 61) (zE a) h g = g 161 0 a.toNat := zar_s (hM.2 (61, 161, 8) (by decide)).1 rfl (hM.2 (61, 161, 8) (by decide)).2.1 h0 (by omega) (by omega)
theorem zMi62 (hM : zMd h s) (h0 : 0 ≤ a) (h1 : a < 8) : zri (zr h 13 0 62) (zE a) h f1 = f1 (zE (s 62 a)) := zri_s (hM.2 (62, 162, 8) (by decide)).1 rfl (hM.2 (62, 162, 8) (by decide)).2.1 h0 (by omega) (by omega) (((hM.2 (62, 162, 8) (by decide)).2.2 a.toNat (by show a.toNat < 8; omega)).trans (by rw [Int.toNat_of_nonneg h0]))
theorem zMa62 (hM : zMd h s) (h0 : 0 ≤ a) (h1 : a < 8) : zar 1 (zr h 13 0 62) (zE a) h g = g 162 0 a.toNat := zar_s (hM.2 (62, 162, 8) (by decide)).1 rfl (hM.2 (62, 162, 8) (by decide)).2.1 h0 (by omega) (by omega)
theorem zMi63 (hM : zMd h s) (h0 : 0 ≤ a) (h1 : a < 8) : zrb (zr h 13 0 63) (zE a) h f1 = f1 (zE (s 63 a)) := zrb_s (hM.2 (63, 263, 8) (by decide)).1 rfl (hM.2 (63, 263, 8) (by decide)).2.1 h0 (by omega) (by omega) (((hM.2 (63, 263, 8) (by decide)).2.2 a.toNat (by show a.toNat < 8; omega)).trans (by rw [Int.toNat_of_nonneg h0]))
theorem zMa63 (hM : zMd h s) (h0 : 0 ≤ a) (h1 : a < 8) : zar 2 (zr h 13 0 63) (zE a) h g = g 263 0 a.toNat := zar_s (hM.2 (63, 263, 8) (by decide)).1 rfl (hM.2 (63, 263, 8) (by decide)).2.1 h0 (by omega) (by omega)
theorem zMi64 (hM : zMd h s) (h0 : 0 ≤ a) (h1 : a < 8) : zri (zr h 13 0 64) (zE a) h f1 = f1 (zE (s 64 a)) := zri_s (hM.2 (64, 164, 8) (by decide)).1 rfl (hM.2 (64, 164, 8) (by decide)).2.1 h0 (by omega) (by omega) (((hM.2 (64, 164, 8) (by decide)).2.2 a.toNat (by show a.toNat < 8; omega)).trans (by rw [Int.toNat_of_nonneg h0]))
theorem zMa64 (hM : zMd h s) (h0 : 0 ≤ a) (h1 : a < 8) : zar 1 (zr h 13 0 64) (zE a) h g = g 164 0 a.toNat := zar_s (hM.2 (64, 164, 8) (by decide)).1 rfl (hM.2 (64, 164, 8) (by decide)).2.1 h0 (by omega) (by omega)
theorem zMi65 (hM : zMd h s) (h0 : 0 ≤ a) (h1 : a < 8) : zri (zr h 13 0 65) (zE a) h f1 = f1 (zE (s 65 a)) := zri_s (hM.2 (65, 165, 8) (by decide)).1 rfl (hM.2 (65, 165, 8) (by decide)).2.1 h0 (by omega) (by omega) (((hM.2 (65, 165, 8) (by decide)).2.2 a.toNat (by show a.toNat < 8; omega)).trans (by rw [Int.toNat_of_nonneg h0]))
theorem zMa65 (hM : zMd h s) (h0 : 0 ≤ a) (h1 : a < 8) : zar 1 (zr h 13 0 65) (zE a) h g = g 165 0 a.toNat := zar_s (hM.2 (65, 165, 8) (by decide)).1 rfl (hM.2 (65, 165, 8) (by decide)).2.1 h0 (by omega) (by omega)
theorem zMi66 (hM : zMd h s) (h0 : 0 ≤ a) (h1 : a < 32) : zri (zr h 13 0 66) (zE a) h f1 = f1 (zE (s 66 a)) := zri_s (hM.2 (66, 166, 32) (by decide)).1 rfl (hM.2 (66, 166, 32) (by decide)).2.1 h0 (by omega) (by omega) (((hM.2 (66, 166, 32) (by decide)).2.2 a.toNat (by show a.toNat < 32; omega)).trans (by rw [Int.toNat_of_nonneg h0]))
theorem zMa66 (hM : zMd h s) (h0 : 0 ≤ a) (h1 : a < 32) : zar 1 (zr h 13 0 66) (zE a) h g = g 166 0 a.toNat := zar_s (hM.2 (66, 166, 32) (by decide)).1 rfl (hM.2 (66, 166, 32) (by decide)).2.1 h0 (by omega) (by omega)
theorem zMi67 (hM : zMd h s) (h0 : 0 ≤ a) (h1 : a < 32) : zrb (zr h 13 0 67) (zE a) h f1 = f1 (zE (s 67 a)) := zrb_s (hM.2 (67, 267, 32) (by decide)).1 rfl (hM.2 (67, 267, 32) (by decide)).2.1 h0 (by omega) (by omega) (((hM.2 (67, 267, 32) (by decide)).2.2 a.toNat (by show a.toNat < 32; omega)).trans (by rw [Int.toNat_of_nonneg h0]))
theorem zMa67 (hM : zMd h s) (h0 : 0 ≤ a) (h1 : a < 32) : zar 2 (zr h 13 0 67) (zE a) h g = g 267 0 a.toNat := zar_s (hM.2 (67, 267, 32) (by decide)).1 rfl (hM.2 (67, 267, 32) (by decide)).2.1 h0 (by omega) (by omega)
theorem zMi68 (hM : zMd h s) (h0 : 0 ≤ a) (h1 : a < 32) : zri (zr h 13 0 68) (zE a) h f1 = f1 (zE (s 68 a)) := zri_s (hM.2 (68, 168, 32) (by decide)).1 rfl (hM.2 (68, 168, 32) (by decide)).2.1 h0 (by omega) (by omega) (((hM.2 (68, 168, 32) (by decide)).2.2 a.toNat (by show a.toNat < 32; omega)).trans (by rw [Int.toNat_of_nonneg h0]))
theorem zMa68 (hM : zMd h s) (h0 : 0 ≤ a) (h1 : a < 32) : zar 1 (zr h 13 0 68) (zE a) h g = g 168 0 a.toNat := zar_s (hM.2 (68, 168, 32) (by decide)).1 rfl (hM.2 (68, 168, 32) (by decide)).2.1 h0 (by omega) (by omega)
theorem zMi69 (hM : zMd h s) (h0 : 0 ≤ a) (h1 : a < 32) : zri (zr h 13 0 69) (zE a) h f1 = f1 (zE (s 69 a)) := zri_s (hM.2 (69, 169, 32) (by decide)).1 rfl (hM.2 (69, 169, 32) (by decide)).2.1 h0 (by omega) (by omega) (((hM.2 (69, 169, 32) (by decide)).2.2 a.toNat (by show a.toNat < 32; omega)).trans (by rw [Int.toNat_of_nonneg h0]))
theorem zMa69 (hM : zMd h s) (h0 : 0 ≤ a) (h1 : a < 32) : zar 1 (zr h 13 0 69) (zE a) h g = g 169 0 a.toNat := zar_s (hM.2 (69, 169, 32) (by decide)).1 rfl (hM.2 (69, 169, 32) (by decide)).2.1 h0 (by omega) (by omega)
theorem zMi70 (hM : zMd h s) (h0 : 0 ≤ a) (h1 : a < 200) : zri (zr h 13 0 70) (zE a) h f1 = f1 (zE (s 70 a)) := zri_s (hM.2 (70, 170, 200) (by decide)).1 rfl (hM.2 (70, 170, 200) (by decide)).2.1 h0 (by omega) (by omega) (((hM.2 (70, 170, 200) (by decide)).2.2 a.toNat (by show a.toNat < 200; omega)).trans (by rw [Int.toNat_of_nonneg h0]))
theorem zMa70 (hM : zMd h s) (h0 : 0 ≤ a) (h1 : a < 200) : zar 1 (zr h 13 0 70) (zE a) h g = g 170 0 a.toNat := zar_s (hM.2 (70, 170, 200) (by decide)).1 rfl (hM.2 (70, 170, 200) (by decide)).2.1 h0 (by omega) (by omega)
theorem zMi72 (hM : zMd h s) (h0 : 0 ≤ a) (h1 : a < 8) : zri (zr h 13 0 72) (zE a) h f1 = f1 (zE (s 72 a)) := zri_s (hM.2 (72, 172, 8) (by decide)).1 rfl (hM.2 (72, 172, 8) (by decide)).2.1 h0 (by omega) (by omega) (((hM.2 (72, 172, 8) (by decide)).2.2 a.toNat (by show a.toNat < 8; omega)).trans (by rw [Int.toNat_of_nonneg h0]))
theorem zMa72 (hM : zMd h s) (h0 : 0 ≤ a) (h1 : a < 8) : zar 1 (zr h 13 0 72) (zE a) h g = g 172 0 a.toNat := zar_s (hM.2 (72, 172, 8) (by decide)).1 rfl (hM.2 (72, 172, 8) (by decide)).2.1 h0 (by omega) (by omega)
theorem zMi73 (hM : zMd h s) (h0 : 0 ≤ a) (h1 : a < 8) : zri (zr h 13 0 73) (zE a) h f1 = f1 (zE (s 73 a)) := zri_s (hM.2 (73, 173, 8) (by decide)).1 rfl (hM.2 (73, 173, 8) (by decide)).2.1 h0 (by omega) (by omega) (((hM.2 (73, 173, 8) (by decide)).2.2 a.toNat (by show a.toNat < 8; omega)).trans (by rw [Int.toNat_of_nonneg h0]))
theorem zMa73 (hM : zMd h s) (h0 : 0 ≤ a) (h1 : a < 8) : zar 1 (zr h 13 0 73) (zE a) h g = g 173 0 a.toNat := zar_s (hM.2 (73, 173, 8) (by decide)).1 rfl (hM.2 (73, 173, 8) (by decide)).2.1 h0 (by omega) (by omega)
theorem zMi74 (hM : zMd h s) (h0 : 0 ≤ a) (h1 : a < 8) : zri (zr h 13 0 74) (zE a) h f1 = f1 (zE (s 74 a)) := zri_s (hM.2 (74, 174, 8) (by decide)).1 rfl (hM.2 (74, 174, 8) (by decide)).2.1 h0 (by omega) (by omega) (((hM.2 (74, 174, 8) (by decide)).2.2 a.toNat (by show a.toNat < 8; omega)).trans (by rw [Int.toNat_of_nonneg h0]))
theorem zMa74 (hM : zMd h s) (h0 : 0 ≤ a) (h1 : a < 8) : zar 1 (zr h 13 0 74) (zE a) h g = g 174 0 a.toNat := zar_s (hM.2 (74, 174, 8) (by decide)).1 rfl (hM.2 (74, 174, 8) (by decide)).2.1 h0 (by omega) (by omega)
theorem zMi75 (hM : zMd h s) (h0 : 0 ≤ a) (h1 : a < 8) : zri (zr h 13 0 75) (zE a) h f1 = f1 (zE (s 75 a)) := zri_s (hM.2 (75, 175, 8) (by decide)).1 rfl (hM.2 (75, 175, 8) (by decide)).2.1 h0 (by omega) (by omega) (((hM.2 (75, 175, 8) (by decide)).2.2 a.toNat (by show a.toNat < 8; omega)).trans (by rw [Int.toNat_of_nonneg h0]))
theorem zMa75 (hM : zMd h s) (h0 : 0 ≤ a) (h1 : a < 8) : zar 1 (zr h 13 0 75) (zE a) h g = g 175 0 a.toNat := zar_s (hM.2 (75, 175, 8) (by decide)).1 rfl (hM.2 (75, 175, 8) (by decide)).2.1 h0 (by omega) (by omega)
theorem zMi76 (hM : zMd h s) (h0 : 0 ≤ a) (h1 : a < 8) : zri (zr h 13 0 76) (zE a) h f1 = f1 (zE (s 76 a)) := zri_s (hM.2 (76, 176, 8) (by decide)).1 rfl (hM.2 (76, 176, 8) (by decide)).2.1 h0 (by omega) (by omega) (((hM.2 (76, 176, 8) (by decide)).2.2 a.toNat (by show a.toNat < 8; omega)).trans (by rw [Int.toNat_of_nonneg h0]))
theorem zMa76 (hM : zMd h s) (h0 : 0 ≤ a) (h1 : a < 8) : zar 1 (zr h 13 0 76) (zE a) h g = g 176 0 a.toNat := zar_s (hM.2 (76, 176, 8) (by decide)).1 rfl (hM.2 (76, 176, 8) (by decide)).2.1 h0 (by omega) (by omega)
theorem zMi77 (hM : zMd h s) (h0 : 0 ≤ a) (h1 : a < 8) : zrb (zr h 13 0 77) (zE a) h f1 = f1 (zE (s 77 a)) := zrb_s (hM.2 (77, 277, 8) (by decide)).1 rfl (hM.2 (77, 277, 8) (by decide)).2.1 h0 (by omega) (by omega) (((hM.2 (77, 277, 8) (by decide)).2.2 a.toNat (by show a.toNat < 8; omega)).trans (by rw [Int.toNat_of_nonneg h0]))
theorem zMa77 (hM : zMd h s) (h0 : 0 ≤ a) (h1 : a < 8) : zar 2 (zr h 13 0 77) (zE a) h g = g 277 0 a.toNat := zar_s (hM.2 (77, 277, 8) (by decide)).1 rfl (hM.2 (77, 277, 8) (by decide)).2.1 h0 (by omega) (by omega)
end ZMR
