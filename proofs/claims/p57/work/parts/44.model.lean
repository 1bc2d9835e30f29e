set_option maxRecDepth 16384
/-! The model's object and its arrays: a state gives what each field holds, by the field's number and the place (printed by wip/whole/gen/model.py). -/
abbrev zS : Type := Nat → Int → Int
def zup (s : zS) (j : Nat) (a v : Int) : zS := fun j' a' => if j' = j ∧ a' = a then v else s j' a'
theorem zup_s {s : zS} {j : Nat} {a v : Int} : zup s j a v j a = v := if_pos ⟨rfl, rfl⟩
theorem zup_a {s : zS} {j : Nat} {a v b : Int} (h : b ≠ a) : zup s j a v j b = s j b := if_neg fun z => h z.2
theorem zup_j {s : zS} {j k : Nat} {a v b : Int} (h : k ≠ j) : zup s j a v k b = s k b := if_neg fun z => h z.1
def zmS : List Nat := [0, 1, 2, 19, 25, 30, 39, 43, 44, 45, 46, 51, 58, 71]
/-- its arrays: the field, the kind, how long -/
def zmA : List (Nat × Nat × Nat) := [(3, 103, 30), (4, 104, 30), (5, 105, 30), (6, 106, 30), (7, 107, 30), (8, 108, 30), (9, 109, 30), (10, 210, 30), (11, 211, 30), (12, 112, 12), (13, 113, 12), (14, 114, 12), (15, 115, 12), (16, 116, 12), (17, 117, 12), (18, 118, 800), (20, 120, 32), (21, 121, 4), (22, 122, 4), (23, 123, 4), (24, 124, 4), (26, 126, 6), (27, 127, 60), (28, 128, 60), (29, 129, 60), (31, 131, 20), (32, 132, 20), (33, 133, 20), (34, 134, 20), (35, 135, 20), (36, 136, 20), (37, 237, 20), (38, 238, 20), (40, 140, 20), (41, 241, 60), (42, 142, 60), (47, 147, 24), (48, 248, 14400), (49, 149, 14400), (50, 250, 4), (52, 152, 8), (53, 153, 8), (54, 154, 8), (55, 155, 8), (56, 256, 9), (57, 157, 3), (59, 159, 6), (60, 160, 6), (61, 161, 8), (62, 162, 8), (63, 263, 8), (64, 164, 8), (65, 165, 8), (66, 166, 32), (67, 267, 32), (68, 168, 32), (69, 169, 32), (70, 170, 200), (72, 172, 8), (73, 173, 8), (74, 174, 8), (75, 175, 8), (76, 176, 8), (77, 277, 8)]
/-- all that the model has is the same -/
def zFm (h h' : zH) : Prop := (∀ k, (k = 13 ∨ 100 ≤ k) → zi h' k = zi h k ∧ zr h' k = zr h k ∧ zln h' k = zln h k)
theorem zmA_k : ∀ e ∈ zmA, 100 ≤ e.2.1 := by decide
theorem zmA_u : ∀ e ∈ zmA, ∀ e' ∈ zmA, e.2.1 = e'.2.1 → e = e' := by decide +kernel
theorem zmA_1 : ∀ e ∈ zmA, ∀ e' ∈ zmA, e.1 = e'.1 → e = e' := by decide +kernel
theorem zmA_s : ∀ e ∈ zmA, ∀ j ∈ zmS, e.1 ≠ j := by decide +kernel
section ZMR
variable {α : Type} {h : zH} {s : zS} {a : Int} {f : Nat → Nat → Option α} {g : Nat → Nat → Nat → Option α} {f1 : Int32 → Option α}
theorem zM_ob {i : Nat} : zob 12 (some (13, i)) f = f 13 i := rfl
end ZMR

