/-! Catching. -/
def zXC (_ : State) : Prop := True
theorem zXC_moved {s U : State} (hW : s.WarmedH U.vm) (h : zXC s) : zXC U := trivial
theorem zXC_calling {U : State} {g : JFrame} {mk : MethodId} {a : Array Value} (h : zXC U) : zXC (State.calling U g mk a) := trivial
def zHl : List (Nat × Nat × Nat) := []
theorem zHl_b : zHl.all (fun e => Nat.blt e.2.1 3 && !(Nat.beq e.1 0) && zwd e.2.2 (Cond.classLink RL e.1 (zEx e.2.1))) = true := by decide +kernel
theorem zcE_b : zxd 271 (Cond.castable (zEx 0) (zEx 0)) = true ∧ zxd 357 (Cond.castable (zEx 1) (zEx 1)) = true ∧ zxd 501 (Cond.castable (zEx 2) (zEx 2)) = true := by decide +kernel
theorem zcE_in {E : Nat} (h : E < 3) : Cond.castable (zEx E) (zEx E) ∈ zXW := by
  match E, h with
  | 0, _ => exact zxd_in zcE_b.1
  | 1, _ => exact zxd_in zcE_b.2.1
  | 2, _ => exact zxd_in zcE_b.2.2
def zhop1 (cc : ByteArray) (b k : Nat) : Bool := (match decode cc b with
  | .ok (.iconst n, 1) => decide (Int32.ofInt n = nI k)
  | _ => false) && (match decode cc (b + 1) with
  | .ok (.ireturn, 1) => true
  | _ => false)
def zhop (cc : ByteArray) (nL h k : Nat) : Bool := match decode cc h with
  | .ok (.astore i, 2) => Nat.blt i nL && zhop1 cc (h + 2) k
  | .ok (.astore_n i, 1) => Nat.blt i.val nL && zhop1 cc (h + 1) k
  | _ => false
def zchh (cc : ByteArray) (nL b pc : Nat) : List (Nat × Nat × Nat × Nat) → List (Nat × Nat × Nat × Nat) → Bool
  | [], [] => true
  | x :: l, y :: r => ((Nat.ble x.1 pc && Nat.blt pc x.2.1) == (decide (y.1 ≤ b) && decide (b < y.2.1))) && ((zHl.any fun e => Nat.beq e.1 y.2.2.2 && Nat.beq e.2.1 x.2.2.1) && (zhop cc nL y.2.2.1 x.2.2.2 && zchh cc nL b pc l r))
  | _, _ => false
def zisI (t : Option FieldType) : Bool := match t with
  | some .int => true
  | _ => false
noncomputable def zckH (mi pc : Nat) (o : zOp) : Bool := (zPr.2.2 mi).isEmpty || (Nat.beq (zon mi) 13 && (zisI (zMt.2.2.1 mi) && zchh (zMt.2.1 mi) (zPr.2.1 mi).1 o.1.2 pc (zPr.2.2 mi) (zMt.2.2.2.1 mi)))
theorem zHl_in {ct E : Nat} (h : (zHl.any fun e => Nat.beq e.1 ct && Nat.beq e.2.1 E) = true) : E < 3 ∧ ct ≠ 0 ∧ Cond.classLink RL ct (zEx E) ∈ zTs := by
  obtain ⟨⟨a, b, d⟩, he, h2⟩ := List.any_eq_true.mp h
  rw [Bool.and_eq_true] at h2
  have e1 := Nat.eq_of_beq_eq_true h2.1
  have e2 := Nat.eq_of_beq_eq_true h2.2
  dsimp only at e1 e2
  subst e1 e2
  have h3 := List.all_eq_true.mp zHl_b _ he
  simp only [Bool.and_eq_true, Bool.not_eq_true'] at h3
  refine ⟨Nat.blt_eq.mp h3.1.1, fun z => ?_, zwd_in h3.2⟩
  rw [z] at h3
  exact absurd h3.1.2 (by decide)
/-- the row that takes it -/
theorem zhnd_at {cc : ByteArray} {nL b pc E k : Nat} : ∀ {l r : List (Nat × Nat × Nat × Nat)}, zchh cc nL b pc l r = true → zhnd l pc E = some k →
    ∃ (pre : List (Nat × Nat × Nat × Nat)) (y : Nat × Nat × Nat × Nat) (suf : List (Nat × Nat × Nat × Nat)), r = pre ++ y :: suf ∧ (∀ z ∈ pre, (decide (z.1 ≤ b) && decide (b < z.2.1)) = false ∨ ∃ E', E' ≠ E ∧ E' < 3 ∧ z.2.2.2 ≠ 0 ∧ Cond.classLink RL z.2.2.2 (zEx E') ∈ zTs) ∧
      (decide (y.1 ≤ b) && decide (b < y.2.1)) = true ∧ E < 3 ∧ y.2.2.2 ≠ 0 ∧ Cond.classLink RL y.2.2.2 (zEx E) ∈ zTs ∧ zhop cc nL y.2.2.1 k = true
  | [], _, _, h => by cases h
  | x :: l, [], h, _ => by cases h
  | x :: l, y :: r, h, hz => by
    rw [zchh] at h
    simp only [Bool.and_eq_true] at h
    obtain ⟨h1, h2, h3, h4⟩ := h
    have h1 := eq_of_beq h1
    obtain ⟨g1, g2, g3⟩ := zHl_in h2
    unfold zhnd at hz
    cases hc : Nat.ble x.1 pc && Nat.blt pc x.2.1 && x.2.2.1 == E with
    | true =>
      rw [hc, cond_true] at hz
      rw [Bool.and_eq_true] at hc
      have e := eq_of_beq hc.2
      subst e
      rw [hc.1] at h1
      cases hz
      exact ⟨[], y, r, rfl, fun z hz => absurd hz List.not_mem_nil, h1.symm, g1, g2, g3, h3⟩
    | false =>
      rw [hc, cond_false] at hz
      obtain ⟨pre, y', suf, e, a1, a2⟩ := zhnd_at h4 hz
      refine ⟨y :: pre, y', suf, by rw [e]; rfl, fun z hz => ?_, a2⟩
      rcases List.mem_cons.mp hz with rfl | hz
      · cases hq : Nat.ble x.1 pc && Nat.blt pc x.2.1 with
        | false =>
          rw [hq] at h1
          exact Or.inl h1.symm
        | true =>
          rw [hq, Bool.true_and] at hc
          refine Or.inr ⟨_, fun z => ?_, g1, g2, g3⟩
          rw [z] at hc
          exact absurd hc (by simp)
      · exact a1 z hz
theorem zckH_0 : [0, 1, 2, 3, 4, 5, 6, 7, 8, 9, 10, 11, 12, 13, 14, 15].all (fun mi => zallB (zckH mi) 0 (zcode mi)) = true := by decide +kernel
theorem zckH_1 : [16, 17, 18, 19, 20, 21, 22, 23, 24, 25, 26, 27, 28, 29, 30, 31].all (fun mi => zallB (zckH mi) 0 (zcode mi)) = true := by decide +kernel
theorem zckH_2 : [32, 33, 34, 35, 36, 37, 38, 39, 40, 41, 42, 43, 44, 45, 46, 47].all (fun mi => zallB (zckH mi) 0 (zcode mi)) = true := by decide +kernel
theorem zckH_3 : [48, 49, 50, 51, 52, 53, 54, 55, 56, 57, 58, 59, 60, 61, 62, 63].all (fun mi => zallB (zckH mi) 0 (zcode mi)) = true := by decide +kernel
theorem zckH_4 : [64, 65, 66, 67, 68, 69, 70, 71, 72, 73, 74, 75, 76, 77, 78, 79].all (fun mi => zallB (zckH mi) 0 (zcode mi)) = true := by decide +kernel
theorem zckH_5 : [80, 81, 82, 83, 84, 85, 86, 87, 88, 89, 90, 91, 92, 93, 94, 95].all (fun mi => zallB (zckH mi) 0 (zcode mi)) = true := by decide +kernel
theorem zckH_6 : [96, 97, 98, 99, 100, 101, 102, 103, 104, 105, 106, 107, 108, 109, 110, 111].all (fun mi => zallB (zckH mi) 0 (zcode mi)) = true := by decide +kernel
theorem zckH_7 : [112, 113, 114, 115, 116, 117, 118, 119, 120, 121, 122, 123, 124, 125, 126, 127].all (fun mi => zallB (zckH mi) 0 (zcode mi)) = true := by decide +kernel
theorem zckH_8 : [128, 129, 130, 131, 132, 133, 134, 135, 136, 137, 138, 139, 140, 141, 142, 143].all (fun mi => zallB (zckH mi) 0 (zcode mi)) = true := by decide +kernel
theorem zckH_9 : [144, 145, 146, 147, 148, 149, 150, 151, 152, 153, 154, 155, 156, 157, 158, 159].all (fun mi => zallB (zckH mi) 0 (zcode mi)) = true := by decide +kernel
theorem zckH_10 : [160, 161, 162, 163, 164, 165, 166, 167, 168, 169, 170, 171, 172, 173, 174, 175].all (fun mi => zallB (zckH mi) 0 (zcode mi)) = true := by decide +kernel
theorem zckH_11 : [176, 177, 178, 179, 180, 181, 182, 183, 184, 185, 186, 187, 188, 189, 190, 191].all (fun mi => zallB (zckH mi) 0 (zcode mi)) = true := by decide +kernel
theorem zckH_12 : [192, 193, 194, 195, 196, 197, 198, 199, 200, 201, 202, 203, 204, 205, 206, 207].all (fun mi => zallB (zckH mi) 0 (zcode mi)) = true := by decide +kernel
theorem zckH_13 : [208, 209, 210, 211, 212, 213, 214, 215, 216, 217, 218, 219, 220, 221, 222, 223].all (fun mi => zallB (zckH mi) 0 (zcode mi)) = true := by decide +kernel
theorem zckH_14 : [224, 225, 226, 227, 228, 229, 230, 231, 232, 233, 234, 235, 236, 237, 238, 239].all (fun mi => zallB (zckH mi) 0 (zcode mi)) = true := by decide +kernel
theorem zckH_15 : [240, 241, 242, 243, 244, 245, 246, 247, 248, 249, 250, 251, 252, 253, 254, 255].all (fun mi => zallB (zckH mi) 0 (zcode mi)) = true := by decide +kernel
theorem zckH_16 : [256, 257, 258, 259, 260, 261, 262, 263, 264, 265, 266, 267, 268, 269, 270, 271].all (fun mi => zallB (zckH mi) 0 (zcode mi)) = true := by decide +kernel
theorem zckH_17 : [272, 273, 274, 275, 276, 277, 278, 279, 280, 281, 282, 283, 284, 285, 286, 287].all (fun mi => zallB (zckH mi) 0 (zcode mi)) = true := by decide +kernel
theorem zckH_18 : [288, 289, 290, 291, 292, 293].all (fun mi => zallB (zckH mi) 0 (zcode mi)) = true := by decide +kernel
theorem zckH_all {mi : Nat} (h : mi < 294) : zallB (zckH mi) 0 (zcode mi) = true := by
  have hm : mi / 16 < 19 := by omega
  match hq : mi / 16 with
  | 0 => exact zall_at zckH_0 (mi := mi) (by
      have : ∀ k, 0 ≤ k → k < 16 → (([0, 1, 2, 3, 4, 5, 6, 7, 8, 9, 10, 11, 12, 13, 14, 15] : List Nat).any fun x => Nat.beq x k) = true := by
        intro k h1 h2
        obtain ⟨d, rfl⟩ : ∃ d, k = 0 + d := ⟨k - 0, by omega⟩
        have hd : d < 16 := by omega
        revert h2
        clear h1
        revert d
        decide +kernel
      exact this mi (by omega) (by omega))
  | 1 => exact zall_at zckH_1 (mi := mi) (by
      have : ∀ k, 16 ≤ k → k < 32 → (([16, 17, 18, 19, 20, 21, 22, 23, 24, 25, 26, 27, 28, 29, 30, 31] : List Nat).any fun x => Nat.beq x k) = true := by
        intro k h1 h2
        obtain ⟨d, rfl⟩ : ∃ d, k = 16 + d := ⟨k - 16, by omega⟩
        have hd : d < 16 := by omega
        revert h2
        clear h1
        revert d
        decide +kernel
      exact this mi (by omega) (by omega))
  | 2 => exact zall_at zckH_2 (mi := mi) (by
      have : ∀ k, 32 ≤ k → k < 48 → (([32, 33, 34, 35, 36, 37, 38, 39, 40, 41, 42, 43, 44, 45, 46, 47] : List Nat).any fun x => Nat.beq x k) = true := by
        intro k h1 h2
        obtain ⟨d, rfl⟩ : ∃ d, k = 32 + d := ⟨k - 32, by omega⟩
        have hd : d < 16 := by omega
        revert h2
        clear h1
        revert d
        decide +kernel
      exact this mi (by omega) (by omega))
  | 3 => exact zall_at zckH_3 (mi := mi) (by
      have : ∀ k, 48 ≤ k → k < 64 → (([48, 49, 50, 51, 52, 53, 54, 55, 56, 57, 58, 59, 60, 61, 62, 63] : List Nat).any fun x => Nat.beq x k) = true := by
        intro k h1 h2
        obtain ⟨d, rfl⟩ : ∃ d, k = 48 + d := ⟨k - 48, by omega⟩
        have hd : d < 16 := by omega
        revert h2
        clear h1
        revert d
        decide +kernel
      exact this mi (by omega) (by omega))
  | 4 => exact zall_at zckH_4 (mi := mi) (by
      have : ∀ k, 64 ≤ k → k < 80 → (([64, 65, 66, 67, 68, 69, 70, 71, 72, 73, 74, 75, 76, 77, 78, 79] : List Nat).any fun x => Nat.beq x k) = true := by
        intro k h1 h2
        obtain ⟨d, rfl⟩ : ∃ d, k = 64 + d := ⟨k - 64, by omega⟩
        have hd : d < 16 := by omega
        revert h2
        clear h1
        revert d
        decide +kernel
      exact this mi (by omega) (by omega))
  | 5 => exact zall_at zckH_5 (mi := mi) (by
      have : ∀ k, 80 ≤ k → k < 96 → (([80, 81, 82, 83, 84, 85, 86, 87, 88, 89, 90, 91, 92, 93, 94, 95] : List Nat).any fun x => Nat.beq x k) = true := by
        intro k h1 h2
        obtain ⟨d, rfl⟩ : ∃ d, k = 80 + d := ⟨k - 80, by omega⟩
        have hd : d < 16 := by omega
        revert h2
        clear h1
        revert d
        decide +kernel
      exact this mi (by omega) (by omega))
  | 6 => exact zall_at zckH_6 (mi := mi) (by
      have : ∀ k, 96 ≤ k → k < 112 → (([96, 97, 98, 99, 100, 101, 102, 103, 104, 105, 106, 107, 108, 109, 110, 111] : List Nat).any fun x => Nat.beq x k) = true := by
        intro k h1 h2
        obtain ⟨d, rfl⟩ : ∃ d, k = 96 + d := ⟨k - 96, by omega⟩
        have hd : d < 16 := by omega
        revert h2
        clear h1
        revert d
        decide +kernel
      exact this mi (by omega) (by omega))
  | 7 => exact zall_at zckH_7 (mi := mi) (by
      have : ∀ k, 112 ≤ k → k < 128 → (([112, 113, 114, 115, 116, 117, 118, 119, 120, 121, 122, 123, 124, 125, 126, 127] : List Nat).any fun x => Nat.beq x k) = true := by
        intro k h1 h2
        obtain ⟨d, rfl⟩ : ∃ d, k = 112 + d := ⟨k - 112, by omega⟩
        have hd : d < 16 := by omega
        revert h2
        clear h1
        revert d
        decide +kernel
      exact this mi (by omega) (by omega))
  | 8 => exact zall_at zckH_8 (mi := mi) (by
      have : ∀ k, 128 ≤ k → k < 144 → (([128, 129, 130, 131, 132, 133, 134, 135, 136, 137, 138, 139, 140, 141, 142, 143] : List Nat).any fun x => Nat.beq x k) = true := by
        intro k h1 h2
        obtain ⟨d, rfl⟩ : ∃ d, k = 128 + d := ⟨k - 128, by omega⟩
        have hd : d < 16 := by omega
        revert h2
        clear h1
        revert d
        decide +kernel
      exact this mi (by omega) (by omega))
  | 9 => exact zall_at zckH_9 (mi := mi) (by
      have : ∀ k, 144 ≤ k → k < 160 → (([144, 145, 146, 147, 148, 149, 150, 151, 152, 153, 154, 155, 156, 157, 158, 159] : List Nat).any fun x => Nat.beq x k) = true := by
        intro k h1 h2
        obtain ⟨d, rfl⟩ : ∃ d, k = 144 + d := ⟨k - 144, by omega⟩
        have hd : d < 16 := by omega
        revert h2
        clear h1
        revert d
        decide +kernel
      exact this mi (by omega) (by omega))
  | 10 => exact zall_at zckH_10 (mi := mi) (by
      have : ∀ k, 160 ≤ k → k < 176 → (([160, 161, 162, 163, 164, 165, 166, 167, 168, 169, 170, 171, 172, 173, 174, 175] : List Nat).any fun x => Nat.beq x k) = true := by
        intro k h1 h2
        obtain ⟨d, rfl⟩ : ∃ d, k = 160 + d := ⟨k - 160, by omega⟩
        have hd : d < 16 := by omega
        revert h2
        clear h1
        revert d
        decide +kernel
      exact this mi (by omega) (by omega))
  | 11 => exact zall_at zckH_11 (mi := mi) (by
      have : ∀ k, 176 ≤ k → k < 192 → (([176, 177, 178, 179, 180, 181, 182, 183, 184, 185, 186, 187, 188, 189, 190, 191] : List Nat).any fun x => Nat.beq x k) = true := by
        intro k h1 h2
        obtain ⟨d, rfl⟩ : ∃ d, k = 176 + d := ⟨k - 176, by omega⟩
        have hd : d < 16 := by omega
        revert h2
        clear h1
        revert d
        decide +kernel
      exact this mi (by omega) (by omega))
  | 12 => exact zall_at zckH_12 (mi := mi) (by
      have : ∀ k, 192 ≤ k → k < 208 → (([192, 193, 194, 195, 196, 197, 198, 199, 200, 201, 202, 203, 204, 205, 206, 207] : List Nat).any fun x => Nat.beq x k) = true := by
        intro k h1 h2
        obtain ⟨d, rfl⟩ : ∃ d, k = 192 + d := ⟨k - 192, by omega⟩
        have hd : d < 16 := by omega
        revert h2
        clear h1
        revert d
        decide +kernel
      exact this mi (by omega) (by omega))
  | 13 => exact zall_at zckH_13 (mi := mi) (by
      have : ∀ k, 208 ≤ k → k < 224 → (([208, 209, 210, 211, 212, 213, 214, 215, 216, 217, 218, 219, 220, 221, 222, 223] : List Nat).any fun x => Nat.beq x k) = true := by
        intro k h1 h2
        obtain ⟨d, rfl⟩ : ∃ d, k = 208 + d := ⟨k - 208, by omega⟩
        have hd : d < 16 := by omega
        revert h2
        clear h1
        revert d
        decide +kernel
      exact this mi (by omega) (by omega))
  | 14 => exact zall_at zckH_14 (mi := mi) (by
      have : ∀ k, 224 ≤ k → k < 240 → (([224, 225, 226, 227, 228, 229, 230, 231, 232, 233, 234, 235, 236, 237, 238, 239] : List Nat).any fun x => Nat.beq x k) = true := by
        intro k h1 h2
        obtain ⟨d, rfl⟩ : ∃ d, k = 224 + d := ⟨k - 224, by omega⟩
        have hd : d < 16 := by omega
        revert h2
        clear h1
        revert d
        decide +kernel
      exact this mi (by omega) (by omega))
  | 15 => exact zall_at zckH_15 (mi := mi) (by
      have : ∀ k, 240 ≤ k → k < 256 → (([240, 241, 242, 243, 244, 245, 246, 247, 248, 249, 250, 251, 252, 253, 254, 255] : List Nat).any fun x => Nat.beq x k) = true := by
        intro k h1 h2
        obtain ⟨d, rfl⟩ : ∃ d, k = 240 + d := ⟨k - 240, by omega⟩
        have hd : d < 16 := by omega
        revert h2
        clear h1
        revert d
        decide +kernel
      exact this mi (by omega) (by omega))
  | 16 => exact zall_at zckH_16 (mi := mi) (by
      have : ∀ k, 256 ≤ k → k < 272 → (([256, 257, 258, 259, 260, 261, 262, 263, 264, 265, 266, 267, 268, 269, 270, 271] : List Nat).any fun x => Nat.beq x k) = true := by
        intro k h1 h2
        obtain ⟨d, rfl⟩ : ∃ d, k = 256 + d := ⟨k - 256, by omega⟩
        have hd : d < 16 := by omega
        revert h2
        clear h1
        revert d
        decide +kernel
      exact this mi (by omega) (by omega))
  | 17 => exact zall_at zckH_17 (mi := mi) (by
      have : ∀ k, 272 ≤ k → k < 288 → (([272, 273, 274, 275, 276, 277, 278, 279, 280, 281, 282, 283, 284, 285, 286, 287] : List Nat).any fun x => Nat.beq x k) = true := by
        intro k h1 h2
        obtain ⟨d, rfl⟩ : ∃ d, k = 272 + d := ⟨k - 272, by omega⟩
        have hd : d < 16 := by omega
        revert h2
        clear h1
        revert d
        decide +kernel
      exact this mi (by omega) (by omega))
  | 18 => exact zall_at zckH_18 (mi := mi) (by
      have : ∀ k, 288 ≤ k → k < 294 → (([288, 289, 290, 291, 292, 293] : List Nat).any fun x => Nat.beq x k) = true := by
        intro k h1 h2
        obtain ⟨d, rfl⟩ : ∃ d, k = 288 + d := ⟨k - 288, by omega⟩
        have hd : d < 16 := by omega
        revert h2
        clear h1
        revert d
        decide +kernel
      exact this mi (by omega) (by omega))
  | n + 19 => omega
section ZH
variable {p : Program} {l : Launch} {e : Env} {R : Room} {s : State} {m : MethodId} {args : Array Value} {below : List Frame} {meth : Method} {c : Code} {H : Heap} {locs : List Loc} {cells slots : Nat}
theorem zhop_W {cc : ByteArray} {G : zG} {nL h k q : Nat} {ls : Array Slot} {Qc : Array Value → State → Outcome → State → Prop} {XC : String → State → State → Prop} (hx : p.tables.exec = Jvm.exec) (hb : c.code = cc) (hr : meth.sig.returnType = some .int) (hlocks : meth.locks = false)
    (hz : zhop cc nL h k = true) (hwf : lv_wf ls) (hsz : ls.size = nL) (hf : ∀ z ∈ locs, G.2.2.2.1 z.base) (hq : ∀ t : State, t.heap = H → Qc args s (.returned (some (.int (nI k)))) t) :
    W p l e R s m args below meth c H locs cells slots (vx_MQ below Qc XC args s cells slots G.2.2.2.1) (F0 m h ls [.ref q]) := by
  have k1 : ∀ {b : Nat} {ls' : Array Slot}, zhop1 cc b k = true → W p l e R s m args below meth c H locs cells slots (vx_MQ below Qc XC args s cells slots G.2.2.2.1) (F0 m b ls' []) := by
    intro b ls' h1
    unfold zhop1 at h1
    rw [Bool.and_eq_true] at h1
    obtain ⟨h1, h2⟩ := h1
    split at h1
    · rename_i n hd1
      split at h2
      · rename_i hd2
        refine lv_iconst hx hb hd1 (of_decide_eq_true h1) ?_
        exact vx_ret (W.iret hx hb hr (fun t ht _ => hq t ht) hf hd2)
      · cases h2
    · cases h1
  have hh : lv_has ls nL [] := ⟨hsz, hwf, fun _ hz => absurd hz List.not_mem_nil⟩
  unfold zhop at hz
  split at hz
  · rename_i i hd
    rw [Bool.and_eq_true] at hz
    exact lv_astore hx hb hd hh (Nat.blt_eq.mp hz.1) rfl fun ls' _ => k1 hz.2
  · rename_i i hd
    rw [Bool.and_eq_true] at hz
    exact lv_astore_n hx hb hd rfl hh (Nat.blt_eq.mp hz.1) rfl fun ls' _ => k1 hz.2
  · cases hz
end ZH
theorem zHand_ok {G : zG} {X : State → Prop} (hX : ∀ s, X s → zXN s ∧ zXC s) : zHandOK zPr zMt G X := by
  intro mi pc o E k ho hz p l e R s m args below meth c hC H locs cells slots ρ L ls rest q ce Qc XC hS hL hce hcv hcl hq
  have ho : zfetch mi pc = some o := ho
  have hm := zmi_lt2 ho
  have hk := zfetch_all (zckH_all hm) ho
  obtain ⟨c1, c2, c3, c4, c5, c6, c7, c8, c9, c10, c11, c12, c13, c14⟩ := hC
  obtain ⟨hXN, hXC⟩ := hX s c13
  unfold zckH at hk
  rw [Bool.or_eq_true] at hk
  rcases hk with hk | hk
  · rw [List.isEmpty_iff.mp hk] at hz
    cases hz
  simp only [Bool.and_eq_true] at hk
  obtain ⟨k1, k2, k3⟩ := hk
  exfalso
  have h9 : ∀ {cc : ByteArray} {nL b pc : Nat} {l r : List (Nat × Nat × Nat × Nat)}, zchh cc nL b pc l r = true → l = [] := by
    intro cc nL b pc l r h
    cases l with
    | nil => rfl
    | cons x l =>
      cases r with
      | nil => cases h
      | cons y r =>
        rw [zchh] at h
        simp only [Bool.and_eq_true] at h
        have h2 := h.2.1
        unfold zHl at h2
        cases h2
  have hz : zhnd (zPr.2.2 mi) pc E = some k := hz
  have h8 : zPr.2.2 mi = [] := h9 k3
  rw [h8] at hz
  cases hz
