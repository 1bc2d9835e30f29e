/-! All calls are checked. -/
theorem zck3_0 : [0, 1, 2, 3, 4, 5, 6, 7, 8, 9, 10, 11, 12, 13, 14, 15].all (fun mi => zallB (fun _ o => zck3 mi o) 0 (zcode mi)) = true := by decide +kernel
theorem zck3_1 : [16, 17, 18, 19, 20, 21, 22, 23, 24, 25, 26, 27, 28, 29, 30, 31].all (fun mi => zallB (fun _ o => zck3 mi o) 0 (zcode mi)) = true := by decide +kernel
theorem zck3_2 : [32, 33, 34, 35, 36, 37, 38, 39, 40, 41, 42, 43, 44, 45, 46, 47].all (fun mi => zallB (fun _ o => zck3 mi o) 0 (zcode mi)) = true := by decide +kernel
theorem zck3_3 : [48, 49, 50, 51, 52, 53, 54, 55, 56, 57, 58, 59, 60, 61, 62, 63].all (fun mi => zallB (fun _ o => zck3 mi o) 0 (zcode mi)) = true := by decide +kernel
theorem zck3_4 : [64, 65, 66, 67, 68, 69, 70, 71, 72, 73, 74, 75, 76, 77, 78, 79].all (fun mi => zallB (fun _ o => zck3 mi o) 0 (zcode mi)) = true := by decide +kernel
theorem zck3_5 : [80, 81, 82, 83, 84, 85, 86, 87, 88, 89, 90, 91, 92, 93, 94, 95].all (fun mi => zallB (fun _ o => zck3 mi o) 0 (zcode mi)) = true := by decide +kernel
theorem zck3_6 : [96, 97, 98, 99, 100, 101, 102, 103, 104, 105, 106, 107, 108, 109, 110, 111].all (fun mi => zallB (fun _ o => zck3 mi o) 0 (zcode mi)) = true := by decide +kernel
theorem zck3_7 : [112, 113, 114, 115, 116, 117, 118, 119, 120, 121, 122, 123, 124, 125, 126, 127].all (fun mi => zallB (fun _ o => zck3 mi o) 0 (zcode mi)) = true := by decide +kernel
theorem zck3_8 : [128, 129, 130, 131, 132, 133, 134, 135, 136, 137, 138, 139, 140, 141, 142, 143].all (fun mi => zallB (fun _ o => zck3 mi o) 0 (zcode mi)) = true := by decide +kernel
theorem zck3_9 : [144, 145, 146, 147, 148, 149, 150, 151, 152, 153, 154, 155, 156, 157, 158, 159].all (fun mi => zallB (fun _ o => zck3 mi o) 0 (zcode mi)) = true := by decide +kernel
theorem zck3_10 : [160, 161, 162, 163, 164, 165, 166, 167, 168, 169, 170, 171, 172, 173, 174, 175].all (fun mi => zallB (fun _ o => zck3 mi o) 0 (zcode mi)) = true := by decide +kernel
theorem zck3_11 : [176, 177, 178, 179, 180, 181, 182, 183, 184, 185, 186, 187, 188, 189, 190, 191].all (fun mi => zallB (fun _ o => zck3 mi o) 0 (zcode mi)) = true := by decide +kernel
theorem zck3_12 : [192, 193, 194, 195, 196, 197, 198, 199, 200, 201, 202, 203, 204, 205, 206, 207].all (fun mi => zallB (fun _ o => zck3 mi o) 0 (zcode mi)) = true := by decide +kernel
theorem zck3_13 : [208, 209, 210, 211, 212, 213, 214, 215, 216, 217, 218, 219, 220, 221, 222, 223].all (fun mi => zallB (fun _ o => zck3 mi o) 0 (zcode mi)) = true := by decide +kernel
theorem zck3_14 : [224, 225, 226, 227, 228, 229, 230, 231, 232, 233, 234, 235, 236, 237, 238, 239].all (fun mi => zallB (fun _ o => zck3 mi o) 0 (zcode mi)) = true := by decide +kernel
theorem zck3_15 : [240, 241, 242, 243, 244, 245, 246, 247, 248, 249, 250, 251, 252, 253, 254, 255].all (fun mi => zallB (fun _ o => zck3 mi o) 0 (zcode mi)) = true := by decide +kernel
theorem zck3_16 : [256, 257, 258, 259, 260, 261, 262, 263, 264, 265, 266, 267, 268, 269, 270, 271].all (fun mi => zallB (fun _ o => zck3 mi o) 0 (zcode mi)) = true := by decide +kernel
theorem zck3_17 : [272, 273, 274, 275, 276, 277, 278, 279, 280, 281, 282, 283, 284, 285, 286, 287].all (fun mi => zallB (fun _ o => zck3 mi o) 0 (zcode mi)) = true := by decide +kernel
theorem zck3_18 : [288, 289, 290, 291, 292, 293].all (fun mi => zallB (fun _ o => zck3 mi o) 0 (zcode mi)) = true := by decide +kernel
theorem zck3_all {mi : Nat} (h : mi < 294) : zallB (fun _ o => zck3 mi o) 0 (zcode mi) = true := by
  have hm : mi / 16 < 19 := by omega
  match hq : mi / 16 with
  | 0 => exact zall_at zck3_0 (mi := mi) (by
      have : ∀ k, 0 ≤ k → k < 16 → (([0, 1, 2, 3, 4, 5, 6, 7, 8, 9, 10, 11, 12, 13, 14, 15] : List Nat).any fun x => Nat.beq x k) = true := by
        intro k h1 h2
        obtain ⟨d, rfl⟩ : ∃ d, k = 0 + d := ⟨k - 0, by omega⟩
        have hd : d < 16 := by omega
        revert h2
        clear h1
        revert d
        decide +kernel
      exact this mi (by omega) (by omega))
  | 1 => exact zall_at zck3_1 (mi := mi) (by
      have : ∀ k, 16 ≤ k → k < 32 → (([16, 17, 18, 19, 20, 21, 22, 23, 24, 25, 26, 27, 28, 29, 30, 31] : List Nat).any fun x => Nat.beq x k) = true := by
        intro k h1 h2
        obtain ⟨d, rfl⟩ : ∃ d, k = 16 + d := ⟨k - 16, by omega⟩
        have hd : d < 16 := by omega
        revert h2
        clear h1
        revert d
        decide +kernel
      exact this mi (by omega) (by omega))
  | 2 => exact zall_at zck3_2 (mi := mi) (by
      have : ∀ k, 32 ≤ k → k < 48 → (([32, 33, 34, 35, 36, 37, 38, 39, 40, 41, 42, 43, 44, 45, 46, 47] : List Nat).any fun x => Nat.beq x k) = true := by
        intro k h1 h2
        obtain ⟨d, rfl⟩ : ∃ d, k = 32 + d := ⟨k - 32, by omega⟩
        have hd : d < 16 := by omega
        revert h2
        clear h1
        revert d
        decide +kernel
      exact this mi (by omega) (by omega))
  | 3 => exact zall_at zck3_3 (mi := mi) (by
      have : ∀ k, 48 ≤ k → k < 64 → (([48, 49, 50, 51, 52, 53, 54, 55, 56, 57, 58, 59, 60, 61, 62, 63] : List Nat).any fun x => Nat.beq x k) = true := by
        intro k h1 h2
        obtain ⟨d, rfl⟩ : ∃ d, k = 48 + d := ⟨k - 48, by omega⟩
        have hd : d < 16 := by omega
        revert h2
        clear h1
        revert d
        decide +kernel
      exact this mi (by omega) (by omega))
  | 4 => exact zall_at zck3_4 (mi := mi) (by
      have : ∀ k, 64 ≤ k → k < 80 → (([64, 65, 66, 67, 68, 69, 70, 71, 72, 73, 74, 75, 76, 77, 78, 79] : List Nat).any fun x => Nat.beq x k) = true := by
        intro k h1 h2
        obtain ⟨d, rfl⟩ : ∃ d, k = 64 + d := ⟨k - 64, by omega⟩
        have hd : d < 16 := by omega
        revert h2
        clear h1
        revert d
        decide +kernel
      exact this mi (by omega) (by omega))
  | 5 => exact zall_at zck3_5 (mi := mi) (by
      have : ∀ k, 80 ≤ k → k < 96 → (([80, 81, 82, 83, 84, 85, 86, 87, 88, 89, 90, 91, 92, 93, 94, 95] : List Nat).any fun x => Nat.beq x k) = true := by
        intro k h1 h2
        obtain ⟨d, rfl⟩ : ∃ d, k = 80 + d := ⟨k - 80, by omega⟩
        have hd : d < 16 := by omega
        revert h2
        clear h1
        revert d
        decide +kernel
      exact this mi (by omega) (by omega))
  | 6 => exact zall_at zck3_6 (mi := mi) (by
      have : ∀ k, 96 ≤ k → k < 112 → (([96, 97, 98, 99, 100, 101, 102, 103, 104, 105, 106, 107, 108, 109, 110, 111] : List Nat).any fun x => Nat.beq x k) = true := by
        intro k h1 h2
        obtain ⟨d, rfl⟩ : ∃ d, k = 96 + d := ⟨k - 96, by omega⟩
        have hd : d < 16 := by omega
        revert h2
        clear h1
        revert d
        decide +kernel
      exact this mi (by omega) (by omega))
  | 7 => exact zall_at zck3_7 (mi := mi) (by
      have : ∀ k, 112 ≤ k → k < 128 → (([112, 113, 114, 115, 116, 117, 118, 119, 120, 121, 122, 123, 124, 125, 126, 127] : List Nat).any fun x => Nat.beq x k) = true := by
        intro k h1 h2
        obtain ⟨d, rfl⟩ : ∃ d, k = 112 + d := ⟨k - 112, by omega⟩
        have hd : d < 16 := by omega
        revert h2
        clear h1
        revert d
        decide +kernel
      exact this mi (by omega) (by omega))
  | 8 => exact zall_at zck3_8 (mi := mi) (by
      have : ∀ k, 128 ≤ k → k < 144 → (([128, 129, 130, 131, 132, 133, 134, 135, 136, 137, 138, 139, 140, 141, 142, 143] : List Nat).any fun x => Nat.beq x k) = true := by
        intro k h1 h2
        obtain ⟨d, rfl⟩ : ∃ d, k = 128 + d := ⟨k - 128, by omega⟩
        have hd : d < 16 := by omega
        revert h2
        clear h1
        revert d
        decide +kernel
      exact this mi (by omega) (by omega))
  | 9 => exact zall_at zck3_9 (mi := mi) (by
      have : ∀ k, 144 ≤ k → k < 160 → (([144, 145, 146, 147, 148, 149, 150, 151, 152, 153, 154, 155, 156, 157, 158, 159] : List Nat).any fun x => Nat.beq x k) = true := by
        intro k h1 h2
        obtain ⟨d, rfl⟩ : ∃ d, k = 144 + d := ⟨k - 144, by omega⟩
        have hd : d < 16 := by omega
        revert h2
        clear h1
        revert d
        decide +kernel
      exact this mi (by omega) (by omega))
  | 10 => exact zall_at zck3_10 (mi := mi) (by
      have : ∀ k, 160 ≤ k → k < 176 → (([160, 161, 162, 163, 164, 165, 166, 167, 168, 169, 170, 171, 172, 173, 174, 175] : List Nat).any fun x => Nat.beq x k) = true := by
        intro k h1 h2
        obtain ⟨d, rfl⟩ : ∃ d, k = 160 + d := ⟨k - 160, by omega⟩
        have hd : d < 16 := by omega
        revert h2
        clear h1
        revert d
        decide +kernel
      exact this mi (by omega) (by omega))
  | 11 => exact zall_at zck3_11 (mi := mi) (by
      have : ∀ k, 176 ≤ k → k < 192 → (([176, 177, 178, 179, 180, 181, 182, 183, 184, 185, 186, 187, 188, 189, 190, 191] : List Nat).any fun x => Nat.beq x k) = true := by
        intro k h1 h2
        obtain ⟨d, rfl⟩ : ∃ d, k = 176 + d := ⟨k - 176, by omega⟩
        have hd : d < 16 := by omega
        revert h2
        clear h1
        revert d
        decide +kernel
      exact this mi (by omega) (by omega))
  | 12 => exact zall_at zck3_12 (mi := mi) (by
      have : ∀ k, 192 ≤ k → k < 208 → (([192, 193, 194, 195, 196, 197, 198, 199, 200, 201, 202, 203, 204, 205, 206, 207] : List Nat).any fun x => Nat.beq x k) = true := by
        intro k h1 h2
        obtain ⟨d, rfl⟩ : ∃ d, k = 192 + d := ⟨k - 192, by omega⟩
        have hd : d < 16 := by omega
        revert h2
        clear h1
        revert d
        decide +kernel
      exact this mi (by omega) (by omega))
  | 13 => exact zall_at zck3_13 (mi := mi) (by
      have : ∀ k, 208 ≤ k → k < 224 → (([208, 209, 210, 211, 212, 213, 214, 215, 216, 217, 218, 219, 220, 221, 222, 223] : List Nat).any fun x => Nat.beq x k) = true := by
        intro k h1 h2
        obtain ⟨d, rfl⟩ : ∃ d, k = 208 + d := ⟨k - 208, by omega⟩
        have hd : d < 16 := by omega
        revert h2
        clear h1
        revert d
        decide +kernel
      exact this mi (by omega) (by omega))
  | 14 => exact zall_at zck3_14 (mi := mi) (by
      have : ∀ k, 224 ≤ k → k < 240 → (([224, 225, 226, 227, 228, 229, 230, 231, 232, 233, 234, 235, 236, 237, 238, 239] : List Nat).any fun x => Nat.beq x k) = true := by
        intro k h1 h2
        obtain ⟨d, rfl⟩ : ∃ d, k = 224 + d := ⟨k - 224, by omega⟩
        have hd : d < 16 := by omega
        revert h2
        clear h1
        revert d
        decide +kernel
      exact this mi (by omega) (by omega))
  | 15 => exact zall_at zck3_15 (mi := mi) (by
      have : ∀ k, 240 ≤ k → k < 256 → (([240, 241, 242, 243, 244, 245, 246, 247, 248, 249, 250, 251, 252, 253, 254, 255] : List Nat).any fun x => Nat.beq x k) = true := by
        intro k h1 h2
        obtain ⟨d, rfl⟩ : ∃ d, k = 240 + d := ⟨k - 240, by omega⟩
        have hd : d < 16 := by omega
        revert h2
        clear h1
        revert d
        decide +kernel
      exact this mi (by omega) (by omega))
  | 16 => exact zall_at zck3_16 (mi := mi) (by
      have : ∀ k, 256 ≤ k → k < 272 → (([256, 257, 258, 259, 260, 261, 262, 263, 264, 265, 266, 267, 268, 269, 270, 271] : List Nat).any fun x => Nat.beq x k) = true := by
        intro k h1 h2
        obtain ⟨d, rfl⟩ : ∃ d, k = 256 + d := ⟨k - 256, by omega⟩
        have hd : d < 16 := by omega
        revert h2
        clear h1
        revert d
        decide +kernel
      exact this mi (by omega) (by omega))
  | 17 => exact zall_at zck3_17 (mi := mi) (by
      have : ∀ k, 272 ≤ k → k < 288 → (([272, 273, 274, 275, 276, 277, 278, 279, 280, 281, 282, 283, 284, 285, 286, 287] : List Nat).any fun x => Nat.beq x k) = true := by
        intro k h1 h2
        obtain ⟨d, rfl⟩ : ∃ d, k = 272 + d := ⟨k - 272, by omega⟩
        have hd : d < 16 := by omega
        revert h2
        clear h1
        revert d
        decide +kernel
      exact this mi (by omega) (by omega))
  | 18 => exact zall_at zck3_18 (mi := mi) (by
      have : ∀ k, 288 ≤ k → k < 294 → (([288, 289, 290, 291, 292, 293] : List Nat).any fun x => Nat.beq x k) = true := by
        intro k h1 h2
        obtain ⟨d, rfl⟩ : ∃ d, k = 288 + d := ⟨k - 288, by omega⟩
        have hd : d < 16 := by omega
        revert h2
        clear h1
        revert d
        decide +kernel
      exact this mi (by omega) (by omega))
  | n + 19 => omega
theorem zF3_ok {X : State → Prop} (hX : ∀ s, X s → zXN s) : zF3 zPr zMt X := by
  intro mi pc o ho
  have ho : zfetch mi pc = some o := ho
  have hm := zmi_lt2 ho
  exact zck3_ok hX (zown_ok hm) (zfetch_all (f := fun _ o => zck3 mi o) (zck3_all hm) ho)
