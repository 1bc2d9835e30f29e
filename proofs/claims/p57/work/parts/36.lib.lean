/-! The library, as the theorem asks. -/
def zOL : List (Nat × Nat × Nat) := [(11, 1, 64), (8, 3, 101), (9, 3, 110), (7, 3, 116), (2, 3, 192), (0, 3, 376), (4, 3, 552), (5, 3, 605)]
def zML : List (Nat × Nat × Nat) := [(9, 94, 798), (8, 55, 813)]
def zOLb (y : MethodName) (e : Nat × Nat × Nat) : Bool := match zcn[e.1]? with
  | some own => zwd e.2.2 (Cond.methodLink own e.2.1 y)
  | none => false
theorem zOL_b : zOL.all (zOLb Lib.objectInit) = true := by decide +kernel
theorem zML_b : zML.all (zOLb Lib.Math.min.name) = true := by decide +kernel
theorem zOL_in {t : List (Nat × Nat × Nat)} {y : MethodName} (hb : t.all (zOLb y) = true) {ow idx : Nat} {own : String} (hown : zcn[ow]? = some own) (h : (t.any fun e => Nat.beq e.1 ow && Nat.beq e.2.1 idx) = true) : Cond.methodLink own idx y ∈ zTs := by
  obtain ⟨⟨a, b, d⟩, he, h2⟩ := List.any_eq_true.mp h
  rw [Bool.and_eq_true] at h2
  have e1 := Nat.eq_of_beq_eq_true h2.1
  have e2 := Nat.eq_of_beq_eq_true h2.2
  dsimp only at e1 e2
  subst e1 e2
  have h3 := List.all_eq_true.mp hb _ he
  unfold zOLb at h3
  dsimp only at h3
  rw [hown] at h3
  exact zwd_in h3
def zCO : List Nat := [1001, 1001, 999, 1001, 1006, 1009, 1001, 1004, 998, 1000, 1001, 1002, 1001]
theorem zCO_b : (List.range 13).all (fun ci => match zcl[ci]?, zCO[ci]? with
  | some (C, _, _), some i => zxd i (Cond.castable C "java/lang/Object")
  | _, _ => false) = true := by decide +kernel
theorem zCO_in {ci : Nat} {C : String} {T : u_T} {N : Nat} (h : ci < 13) (hc : zcl[ci]? = some (C, T, N)) : Cond.castable C "java/lang/Object" ∈ zXW := by
  have h1 := List.all_eq_true.mp zCO_b ci (List.mem_range.mpr h)
  rw [hc] at h1
  split at h1
  · rename_i h2 h3
    cases h2
    exact zxd_in h1
  · cases h1
theorem zkc_lt {k : Nat} (h : ztg k = 0) : zkc k < 13 := by
  by_cases hk : k < 41
  · have h9 : ∀ k, k < 41 → ztg k = 0 → zkc k < 13 := by decide
    exact h9 k hk h
  · exfalso
    unfold ztg at h
    have e : zkT[k]? = none := List.getElem?_eq_none (by show 41 ≤ k; omega)
    rw [e] at h
    revert h
    generalize Nat.ble 100 k = a
    generalize Nat.ble 200 k = b
    generalize Nat.ble 300 k = c
    cases a <;> cases b <;> cases c <;> simp
noncomputable def zckL0 (mi w : Nat) (i : Instr) : Bool := match w, i with
  | 0, .invokespecial i => (zOL.any fun e => Nat.beq e.1 (zon mi) && Nat.beq e.2.1 i) && (Nat.ble 1 (zMt.2.2.2.2.1 mi) && Nat.ble 40 (zMt.2.2.2.2.2 mi))
  | 1, .invokespecial i => ((Nat.beq (zon mi) 11 && Nat.beq i 9) || (Nat.beq (zon mi) 2 && Nat.beq i 11)) && (Nat.ble 4 (zMt.2.2.2.2.1 mi) && Nat.ble 140 (zMt.2.2.2.2.2 mi))
  | 2, .invokeinterface i _ => (Nat.beq (zon mi) 11 && Nat.beq i 77) && (Nat.ble 1 (zMt.2.2.2.2.1 mi) && Nat.ble 40 (zMt.2.2.2.2.2 mi))
  | 3, .invokeinterface i _ => (Nat.beq (zon mi) 11 && Nat.beq i 127) && (Nat.ble 3 (zMt.2.2.2.2.1 mi) && Nat.ble 90 (zMt.2.2.2.2.2 mi))
  | 4, .invokeinterface i _ => (Nat.beq (zon mi) 11 && Nat.beq i 114) && (Nat.ble 7 (zMt.2.2.2.2.1 mi) && Nat.ble 180 (zMt.2.2.2.2.2 mi))
  | 5, .invokestatic i => (Nat.beq (zon mi) 7 && Nat.beq i 25) && (Nat.ble 2 (zMt.2.2.2.2.1 mi) && Nat.ble 70 (zMt.2.2.2.2.2 mi))
  | 6, .invokestatic i => (zML.any fun e => Nat.beq e.1 (zon mi) && Nat.beq e.2.1 i) && (Nat.ble 1 (zMt.2.2.2.2.1 mi) && Nat.ble 40 (zMt.2.2.2.2.2 mi))
  | _, _ => false
noncomputable def zckLb (mi : Nat) (o : zOp) : Bool := match o.2.1 with
  | 8 :: w :: _ => zckL0 mi w o.1.1
  | _ => true
theorem zckLb_0 : [0, 1, 2, 3, 4, 5, 6, 7, 8, 9, 10, 11, 12, 13, 14, 15].all (fun mi => zallB (fun _ o => zckLb mi o) 0 (zcode mi)) = true := by decide +kernel
theorem zckLb_1 : [16, 17, 18, 19, 20, 21, 22, 23, 24, 25, 26, 27, 28, 29, 30, 31].all (fun mi => zallB (fun _ o => zckLb mi o) 0 (zcode mi)) = true := by decide +kernel
theorem zckLb_2 : [32, 33, 34, 35, 36, 37, 38, 39, 40, 41, 42, 43, 44, 45, 46, 47].all (fun mi => zallB (fun _ o => zckLb mi o) 0 (zcode mi)) = true := by decide +kernel
theorem zckLb_3 : [48, 49, 50, 51, 52, 53, 54, 55, 56, 57, 58, 59, 60, 61, 62, 63].all (fun mi => zallB (fun _ o => zckLb mi o) 0 (zcode mi)) = true := by decide +kernel
theorem zckLb_4 : [64, 65, 66, 67, 68, 69, 70, 71, 72, 73, 74, 75, 76, 77, 78, 79].all (fun mi => zallB (fun _ o => zckLb mi o) 0 (zcode mi)) = true := by decide +kernel
theorem zckLb_5 : [80, 81, 82, 83, 84, 85, 86, 87, 88, 89, 90, 91, 92, 93, 94, 95].all (fun mi => zallB (fun _ o => zckLb mi o) 0 (zcode mi)) = true := by decide +kernel
theorem zckLb_6 : [96, 97, 98, 99, 100, 101, 102, 103, 104, 105, 106, 107, 108, 109, 110, 111].all (fun mi => zallB (fun _ o => zckLb mi o) 0 (zcode mi)) = true := by decide +kernel
theorem zckLb_7 : [112, 113, 114, 115, 116, 117, 118, 119, 120, 121, 122, 123, 124, 125, 126, 127].all (fun mi => zallB (fun _ o => zckLb mi o) 0 (zcode mi)) = true := by decide +kernel
theorem zckLb_8 : [128, 129, 130, 131, 132, 133, 134, 135, 136, 137, 138, 139, 140, 141, 142, 143].all (fun mi => zallB (fun _ o => zckLb mi o) 0 (zcode mi)) = true := by decide +kernel
theorem zckLb_9 : [144, 145, 146, 147, 148, 149, 150, 151, 152, 153, 154, 155, 156, 157, 158, 159].all (fun mi => zallB (fun _ o => zckLb mi o) 0 (zcode mi)) = true := by decide +kernel
theorem zckLb_10 : [160, 161, 162, 163, 164, 165, 166, 167, 168, 169, 170, 171, 172, 173, 174, 175].all (fun mi => zallB (fun _ o => zckLb mi o) 0 (zcode mi)) = true := by decide +kernel
theorem zckLb_11 : [176, 177, 178, 179, 180, 181, 182, 183, 184, 185, 186, 187, 188, 189, 190, 191].all (fun mi => zallB (fun _ o => zckLb mi o) 0 (zcode mi)) = true := by decide +kernel
theorem zckLb_12 : [192, 193, 194, 195, 196, 197, 198, 199, 200, 201, 202, 203, 204, 205, 206, 207].all (fun mi => zallB (fun _ o => zckLb mi o) 0 (zcode mi)) = true := by decide +kernel
theorem zckLb_13 : [208, 209, 210, 211, 212, 213, 214, 215, 216, 217, 218, 219, 220, 221, 222, 223].all (fun mi => zallB (fun _ o => zckLb mi o) 0 (zcode mi)) = true := by decide +kernel
theorem zckLb_14 : [224, 225, 226, 227, 228, 229, 230, 231, 232, 233, 234, 235, 236, 237, 238, 239].all (fun mi => zallB (fun _ o => zckLb mi o) 0 (zcode mi)) = true := by decide +kernel
theorem zckLb_15 : [240, 241, 242, 243, 244, 245, 246, 247, 248, 249, 250, 251, 252, 253, 254, 255].all (fun mi => zallB (fun _ o => zckLb mi o) 0 (zcode mi)) = true := by decide +kernel
theorem zckLb_16 : [256, 257, 258, 259, 260, 261, 262, 263, 264, 265, 266, 267, 268, 269, 270, 271].all (fun mi => zallB (fun _ o => zckLb mi o) 0 (zcode mi)) = true := by decide +kernel
theorem zckLb_17 : [272, 273, 274, 275, 276, 277, 278, 279, 280, 281, 282, 283, 284, 285, 286, 287].all (fun mi => zallB (fun _ o => zckLb mi o) 0 (zcode mi)) = true := by decide +kernel
theorem zckLb_18 : [288, 289, 290, 291, 292, 293].all (fun mi => zallB (fun _ o => zckLb mi o) 0 (zcode mi)) = true := by decide +kernel
theorem zckLb_all {mi : Nat} (h : mi < 294) : zallB (fun _ o => zckLb mi o) 0 (zcode mi) = true := by
  have hm : mi / 16 < 19 := by omega
  match hq : mi / 16 with
  | 0 => exact zall_at zckLb_0 (mi := mi) (by
      have : ∀ k, 0 ≤ k → k < 16 → (([0, 1, 2, 3, 4, 5, 6, 7, 8, 9, 10, 11, 12, 13, 14, 15] : List Nat).any fun x => Nat.beq x k) = true := by
        intro k h1 h2
        obtain ⟨d, rfl⟩ : ∃ d, k = 0 + d := ⟨k - 0, by omega⟩
        have hd : d < 16 := by omega
        revert h2
        clear h1
        revert d
        decide +kernel
      exact this mi (by omega) (by omega))
  | 1 => exact zall_at zckLb_1 (mi := mi) (by
      have : ∀ k, 16 ≤ k → k < 32 → (([16, 17, 18, 19, 20, 21, 22, 23, 24, 25, 26, 27, 28, 29, 30, 31] : List Nat).any fun x => Nat.beq x k) = true := by
        intro k h1 h2
        obtain ⟨d, rfl⟩ : ∃ d, k = 16 + d := ⟨k - 16, by omega⟩
        have hd : d < 16 := by omega
        revert h2
        clear h1
        revert d
        decide +kernel
      exact this mi (by omega) (by omega))
  | 2 => exact zall_at zckLb_2 (mi := mi) (by
      have : ∀ k, 32 ≤ k → k < 48 → (([32, 33, 34, 35, 36, 37, 38, 39, 40, 41, 42, 43, 44, 45, 46, 47] : List Nat).any fun x => Nat.beq x k) = true := by
        intro k h1 h2
        obtain ⟨d, rfl⟩ : ∃ d, k = 32 + d := ⟨k - 32, by omega⟩
        have hd : d < 16 := by omega
        revert h2
        clear h1
        revert d
        decide +kernel
      exact this mi (by omega) (by omega))
  | 3 => exact zall_at zckLb_3 (mi := mi) (by
      have : ∀ k, 48 ≤ k → k < 64 → (([48, 49, 50, 51, 52, 53, 54, 55, 56, 57, 58, 59, 60, 61, 62, 63] : List Nat).any fun x => Nat.beq x k) = true := by
        intro k h1 h2
        obtain ⟨d, rfl⟩ : ∃ d, k = 48 + d := ⟨k - 48, by omega⟩
        have hd : d < 16 := by omega
        revert h2
        clear h1
        revert d
        decide +kernel
      exact this mi (by omega) (by omega))
  | 4 => exact zall_at zckLb_4 (mi := mi) (by
      have : ∀ k, 64 ≤ k → k < 80 → (([64, 65, 66, 67, 68, 69, 70, 71, 72, 73, 74, 75, 76, 77, 78, 79] : List Nat).any fun x => Nat.beq x k) = true := by
        intro k h1 h2
        obtain ⟨d, rfl⟩ : ∃ d, k = 64 + d := ⟨k - 64, by omega⟩
        have hd : d < 16 := by omega
        revert h2
        clear h1
        revert d
        decide +kernel
      exact this mi (by omega) (by omega))
  | 5 => exact zall_at zckLb_5 (mi := mi) (by
      have : ∀ k, 80 ≤ k → k < 96 → (([80, 81, 82, 83, 84, 85, 86, 87, 88, 89, 90, 91, 92, 93, 94, 95] : List Nat).any fun x => Nat.beq x k) = true := by
        intro k h1 h2
        obtain ⟨d, rfl⟩ : ∃ d, k = 80 + d := ⟨k - 80, by omega⟩
        have hd : d < 16 := by omega
        revert h2
        clear h1
        revert d
        decide +kernel
      exact this mi (by omega) (by omega))
  | 6 => exact zall_at zckLb_6 (mi := mi) (by
      have : ∀ k, 96 ≤ k → k < 112 → (([96, 97, 98, 99, 100, 101, 102, 103, 104, 105, 106, 107, 108, 109, 110, 111] : List Nat).any fun x => Nat.beq x k) = true := by
        intro k h1 h2
        obtain ⟨d, rfl⟩ : ∃ d, k = 96 + d := ⟨k - 96, by omega⟩
        have hd : d < 16 := by omega
        revert h2
        clear h1
        revert d
        decide +kernel
      exact this mi (by omega) (by omega))
  | 7 => exact zall_at zckLb_7 (mi := mi) (by
      have : ∀ k, 112 ≤ k → k < 128 → (([112, 113, 114, 115, 116, 117, 118, 119, 120, 121, 122, 123, 124, 125, 126, 127] : List Nat).any fun x => Nat.beq x k) = true := by
        intro k h1 h2
        obtain ⟨d, rfl⟩ : ∃ d, k = 112 + d := ⟨k - 112, by omega⟩
        have hd : d < 16 := by omega
        revert h2
        clear h1
        revert d
        decide +kernel
      exact this mi (by omega) (by omega))
  | 8 => exact zall_at zckLb_8 (mi := mi) (by
      have : ∀ k, 128 ≤ k → k < 144 → (([128, 129, 130, 131, 132, 133, 134, 135, 136, 137, 138, 139, 140, 141, 142, 143] : List Nat).any fun x => Nat.beq x k) = true := by
        intro k h1 h2
        obtain ⟨d, rfl⟩ : ∃ d, k = 128 + d := ⟨k - 128, by omega⟩
        have hd : d < 16 := by omega
        revert h2
        clear h1
        revert d
        decide +kernel
      exact this mi (by omega) (by omega))
  | 9 => exact zall_at zckLb_9 (mi := mi) (by
      have : ∀ k, 144 ≤ k → k < 160 → (([144, 145, 146, 147, 148, 149, 150, 151, 152, 153, 154, 155, 156, 157, 158, 159] : List Nat).any fun x => Nat.beq x k) = true := by
        intro k h1 h2
        obtain ⟨d, rfl⟩ : ∃ d, k = 144 + d := ⟨k - 144, by omega⟩
        have hd : d < 16 := by omega
        revert h2
        clear h1
        revert d
        decide +kernel
      exact this mi (by omega) (by omega))
  | 10 => exact zall_at zckLb_10 (mi := mi) (by
      have : ∀ k, 160 ≤ k → k < 176 → (([160, 161, 162, 163, 164, 165, 166, 167, 168, 169, 170, 171, 172, 173, 174, 175] : List Nat).any fun x => Nat.beq x k) = true := by
        intro k h1 h2
        obtain ⟨d, rfl⟩ : ∃ d, k = 160 + d := ⟨k - 160, by omega⟩
        have hd : d < 16 := by omega
        revert h2
        clear h1
        revert d
        decide +kernel
      exact this mi (by omega) (by omega))
  | 11 => exact zall_at zckLb_11 (mi := mi) (by
      have : ∀ k, 176 ≤ k → k < 192 → (([176, 177, 178, 179, 180, 181, 182, 183, 184, 185, 186, 187, 188, 189, 190, 191] : List Nat).any fun x => Nat.beq x k) = true := by
        intro k h1 h2
        obtain ⟨d, rfl⟩ : ∃ d, k = 176 + d := ⟨k - 176, by omega⟩
        have hd : d < 16 := by omega
        revert h2
        clear h1
        revert d
        decide +kernel
      exact this mi (by omega) (by omega))
  | 12 => exact zall_at zckLb_12 (mi := mi) (by
      have : ∀ k, 192 ≤ k → k < 208 → (([192, 193, 194, 195, 196, 197, 198, 199, 200, 201, 202, 203, 204, 205, 206, 207] : List Nat).any fun x => Nat.beq x k) = true := by
        intro k h1 h2
        obtain ⟨d, rfl⟩ : ∃ d, k = 192 + d := ⟨k - 192, by omega⟩
        have hd : d < 16 := by omega
        revert h2
        clear h1
        revert d
        decide +kernel
      exact this mi (by omega) (by omega))
  | 13 => exact zall_at zckLb_13 (mi := mi) (by
      have : ∀ k, 208 ≤ k → k < 224 → (([208, 209, 210, 211, 212, 213, 214, 215, 216, 217, 218, 219, 220, 221, 222, 223] : List Nat).any fun x => Nat.beq x k) = true := by
        intro k h1 h2
        obtain ⟨d, rfl⟩ : ∃ d, k = 208 + d := ⟨k - 208, by omega⟩
        have hd : d < 16 := by omega
        revert h2
        clear h1
        revert d
        decide +kernel
      exact this mi (by omega) (by omega))
  | 14 => exact zall_at zckLb_14 (mi := mi) (by
      have : ∀ k, 224 ≤ k → k < 240 → (([224, 225, 226, 227, 228, 229, 230, 231, 232, 233, 234, 235, 236, 237, 238, 239] : List Nat).any fun x => Nat.beq x k) = true := by
        intro k h1 h2
        obtain ⟨d, rfl⟩ : ∃ d, k = 224 + d := ⟨k - 224, by omega⟩
        have hd : d < 16 := by omega
        revert h2
        clear h1
        revert d
        decide +kernel
      exact this mi (by omega) (by omega))
  | 15 => exact zall_at zckLb_15 (mi := mi) (by
      have : ∀ k, 240 ≤ k → k < 256 → (([240, 241, 242, 243, 244, 245, 246, 247, 248, 249, 250, 251, 252, 253, 254, 255] : List Nat).any fun x => Nat.beq x k) = true := by
        intro k h1 h2
        obtain ⟨d, rfl⟩ : ∃ d, k = 240 + d := ⟨k - 240, by omega⟩
        have hd : d < 16 := by omega
        revert h2
        clear h1
        revert d
        decide +kernel
      exact this mi (by omega) (by omega))
  | 16 => exact zall_at zckLb_16 (mi := mi) (by
      have : ∀ k, 256 ≤ k → k < 272 → (([256, 257, 258, 259, 260, 261, 262, 263, 264, 265, 266, 267, 268, 269, 270, 271] : List Nat).any fun x => Nat.beq x k) = true := by
        intro k h1 h2
        obtain ⟨d, rfl⟩ : ∃ d, k = 256 + d := ⟨k - 256, by omega⟩
        have hd : d < 16 := by omega
        revert h2
        clear h1
        revert d
        decide +kernel
      exact this mi (by omega) (by omega))
  | 17 => exact zall_at zckLb_17 (mi := mi) (by
      have : ∀ k, 272 ≤ k → k < 288 → (([272, 273, 274, 275, 276, 277, 278, 279, 280, 281, 282, 283, 284, 285, 286, 287] : List Nat).any fun x => Nat.beq x k) = true := by
        intro k h1 h2
        obtain ⟨d, rfl⟩ : ∃ d, k = 272 + d := ⟨k - 272, by omega⟩
        have hd : d < 16 := by omega
        revert h2
        clear h1
        revert d
        decide +kernel
      exact this mi (by omega) (by omega))
  | 18 => exact zall_at zckLb_18 (mi := mi) (by
      have : ∀ k, 288 ≤ k → k < 294 → (([288, 289, 290, 291, 292, 293] : List Nat).any fun x => Nat.beq x k) = true := by
        intro k h1 h2
        obtain ⟨d, rfl⟩ : ∃ d, k = 288 + d := ⟨k - 288, by omega⟩
        have hd : d < 16 := by omega
        revert h2
        clear h1
        revert d
        decide +kernel
      exact this mi (by omega) (by omega))
  | n + 19 => omega
theorem zcap_b : ∀ n, n < 33 → (zcap n = n → n = 0 ∨ (n = 10 ∧ zcap (n + 1) = 15) ∨ (n = 15 ∧ zcap (n + 1) = 22) ∨ (n = 22 ∧ zcap (n + 1) = 33)) ∧ (zcap n ≠ n → 0 < n ∧ n < zcap n ∧ zcap (n + 1) = zcap n) ∧ n < zcap (n + 1) ∧ zcap (n + 1) ≤ 33 := by decide
theorem zcap_le : ∀ n, n < 34 → n ≤ zcap n ∧ zcap n ≤ 33 := by decide
theorem zset3 {α : Type} {ws : List α} {q1 q2 : Nat} {x y z : α} (h : q1 ≠ q2) : ((ws.set q1 x).set q2 y).set q1 z = (ws.set q2 y).set q1 z := by
  rw [List.set_comm x y h, List.set_set]
theorem zcpy_all {α : Type} {f : Nat → Option α} {n : Nat} (h : ∀ j, n ≤ j → f j = none) : va_cpy f (fun _ => none) 0 0 n = f := by
  funext j
  unfold va_cpy
  by_cases e : j < n
  · rw [if_pos ⟨Nat.zero_le _, by omega⟩, Nat.sub_zero, Nat.zero_add]
  · rw [if_neg (fun z => e (by omega)), h j (by omega)]
section ZLB
variable {l : Launch} {G : zG} {X : State → Prop} {mi : Nat}
/-- a full list's new array -/
theorem zjb_full (hok : zXok G X) (hXL : ∀ s, X s → zXL G mi s) {ws : va_W} {q1 a b n ci : Nat} {c0 : Int32} {f : Nat → Option Nat} {C : String} {T : u_T} {NN : Nat} (hn : n < 33) (hcap : zcap n = n) (hw : ws[q1]? = some (a, .inr (13, [.int c0, .ref b, .int (nI n)])))
    (h0 : n = 0 → b = G.2.2.1) (h1 : 0 < n → ∃ q2 : Nat, ws[q2]? = some (b, (.inl (G.2.1 8, zAr n f) : va_E))) (hf : ∀ j, n ≤ j → f j = none) (hci : zcl[ci]? = some (C, T, NN))
    (hel : ∀ j, j < n → ∀ y, f j = some y → ∃ (qk : Nat) (vs : List Value), ws[qk]? = some (y, .inr (ci, vs))) (hca : ∀ s, X s → va_Nw (.castable C "java/lang/Object") s) :
    zJb l G X yJx4a65c_grow_d5877 cJx4a65c_grow_d5877 1 (some (.array (.object "java/lang/Object"))) 4 105 1 (zcap (n + 1)) [.ref a] (zPD G ws) (fun r H => ∃ q, r = some (.ref q) ∧ zPD G ((ws ++ [((q, .inl (G.2.1 8, zAr (zcap (n + 1)) f)) : Nat × va_E)]).set q1 (a, .inr (13, [.int c0, .ref q, .int (nI n)]))) H) := by
  rcases (zcap_b n hn).1 hcap with rfl | h2
  · obtain rfl := h0 rfl
    have ef : f = fun _ => none := funext fun j => hf j (Nat.zero_le _)
    rw [ef]
    exact zjb_g0 hok hw (zjb_g1D (c0 := c0) hXL hw) (fun v H h => h.imp fun _ k => k.1)
  · obtain ⟨q2, hw2⟩ := h1 (by omega)
    have hg := zjb_g1F (l := l) (n := n) (N := zcap (n + 1)) (c0 := c0) hok hXL h2 hw hw2 hci hel hca
    have e1 : nI (n + 1) = nI n + 1 := by
      unfold nI
      rw [show (1 : Int32) = Int32.ofNat 1 from rfl, ← Int32.ofNat_add]
    rw [e1] at hg
    have h3 := zjb_g0 (l := l) hok hw (sz := nI n) hg (fun v H h => h.imp fun _ k => k.1)
    rw [zcpy_all hf] at h3
    exact h3
end ZLB
