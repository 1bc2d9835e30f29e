/-! Throwing. -/
def zSL : List (Nat × String) := [(583, "an argument is out of its range"), (121, "an artefact needs things of another service"), (72, "an artefact reads the schema that it writes"), (85, "there are 30 artefacts"), (580, "there is none with this number"), (155, "there are 6 programs"), (174, "there is no such kind of step"), (169, "the program has 10 steps or a release is by it"), (180, "there are 20, no steps, or the artefact is being released"), (212, "the release has ended"), (353, "more than 20000 minutes would have gone by"), (398, "the controller is dead"), (400, "the controller is not dead"), (421, "there is a session, nothing to see, or 40 sessions"), (423, "the customer has no session of the service"), (460, "there are not both artefacts, or 600 measures were taken")]
def zXS (s : State) : Prop := ∀ e ∈ zSL, ∃ a : Nat, vk_R RX11 e.1 e.2 a s
def zXe (w : Cond) : Bool := match w with
  | .declares _ => true
  | _ => false
def zXD (s : State) : Prop := ∀ w ∈ lw_tbl.filter zXe, va_Nw w s
theorem zXD_moved {s U : State} (hW : s.WarmedH U.vm) (h : zXD s) : zXD U := by
  intro w hw
  have h1 := h w hw
  have h2 := (List.mem_filter.mp hw).2
  unfold zXe at h2
  split at h2
  · exact va_Nw.warmD hW h1
  · cases h2
theorem zXD_calling {U : State} {g : JFrame} {mk : MethodId} {a : Array Value} (h : zXD U) : zXD (State.calling U g mk a) := fun w hw => by
  have h2 := (List.mem_filter.mp hw).2
  unfold zXe at h2
  split at h2
  · exact va_Nw.same rfl rfl (h _ hw)
  · cases h2
def zXT (G : zG) (s : State) : Prop := zXD s ∧ zXS s ∧ vx_Zq Bundle.tN "UNASSIGNED_STACK" Bundle.steD G.2.2.2.1 s s.heap ∧ vx_Zq Bundle.tN "SUPPRESSED_SENTINEL" Bundle.listD G.2.2.2.1 s s.heap
theorem zXS_warm {s U : State} (hW : s.WarmedH U.vm) (h : zXS s) : zXS U := fun e he => (h e he).imp fun _ k => vk_R.warm hW k
theorem zXT_moved {G : zG} {s U : State} {H : Heap} {locs : List Loc} (h : zXT G s) (hS : va_S G.2.2.2.1 s.heap H locs) (hU : U.heap = H) (hW : s.WarmedH U.vm) : zXT G U :=
  ⟨zXD_moved hW h.1, zXS_warm hW h.2.1, by rw [hU]; exact (h.2.2.1.kept hS.2.1).moved hW.alike, by rw [hU]; exact (h.2.2.2.kept hS.2.1).moved hW.alike⟩
theorem zXT_calling {G : zG} {U : State} {g : JFrame} {mk : MethodId} {a : Array Value} (h : zXT G U) : zXT G (State.calling U g mk a) :=
  ⟨zXD_calling h.1, fun e he => (h.2.1 e he).imp fun _ k => vk_R.same rfl k, h.2.2.1.moved (u := U) (U := U.calling g mk a) (Vm.Alike.refl U.vm), h.2.2.2.moved (u := U) (U := U.calling g mk a) (Vm.Alike.refl U.vm)⟩
def zNm : List String := ["java/lang/RuntimeException", "java/lang/Exception"]
def zwx (i : Nat) (w : Cond) : Bool := match lw_tbl[i]? with
  | some v => decide (v = w) && (goodWord v || (zXb v || zXe v))
  | none => false
abbrev zXA : List Cond := zXW ++ lw_tbl.filter zXe
theorem zwx_in {i : Nat} {w : Cond} (h : zwx i w = true) : w ∈ zTs ∨ w ∈ zXA := by
  unfold zwx at h
  split at h
  · rename_i v hv
    rw [Bool.and_eq_true, Bool.or_eq_true, Bool.or_eq_true] at h
    have e := of_decide_eq_true h.1
    subst e
    rcases h.2 with h2 | h2 | h2
    · exact Or.inl (zTs_of (List.mem_of_getElem? hv) h2)
    · exact Or.inr (List.mem_append.mpr (Or.inl (List.mem_filter.mpr ⟨List.mem_of_getElem? hv, h2⟩)))
    · exact Or.inr (List.mem_append.mpr (Or.inr (List.mem_filter.mpr ⟨List.mem_of_getElem? hv, h2⟩)))
  · cases h
def zaln : List Cond → List Nat → Bool
  | [], _ => true
  | w :: l, i :: r => zwx i w && zaln l r
  | _ :: _, [] => false
theorem zaln_in : ∀ {l : List Cond} {r : List Nat}, zaln l r = true → ∀ w ∈ l, w ∈ zTs ∨ w ∈ zXA
  | [], _, _, w, hw => absurd hw List.not_mem_nil
  | x :: l, i :: r, h, w, hw => by
    rw [zaln, Bool.and_eq_true] at h
    rcases List.mem_cons.mp hw with rfl | hw
    · exact zwx_in h.1
    · exact zaln_in h.2 w hw
  | x :: l, [], h, _, _ => by cases h
theorem zXA_tb {w : Cond} (hw : w ∈ zXA) : w.onTables = true := by
  rcases List.mem_append.mp hw with hw | hw
  · have h2 := (List.mem_filter.mp hw).2
    unfold zXb at h2
    split at h2
    · rfl
    · rfl
    · cases h2
  · have h2 := (List.mem_filter.mp hw).2
    unfold zXe at h2
    split at h2
    · rfl
    · cases h2
theorem zXA_use {s : State} {args : Array Value} (h : zXN s) (hD : zXD s) {w : Cond} (hw : w ∈ zXA) : w.before args s = true := by
  refine va_Nw.use (zXA_tb hw) ?_
  rcases List.mem_append.mp hw with hw | hw
  · exact h _ hw
  · exact hD _ hw
theorem zvx_ot {w : Cond} (h : w ∈ zTs ∨ w ∈ zXA) : vx_ot w = true := by
  unfold vx_ot
  rcases h with h | h
  · rw [(List.mem_filter.mp h).2, Bool.or_true]
  · rw [zXA_tb h, Bool.true_or]
theorem zth_0 : zaln (Cond.classLink RX11 70 (zEx 0) :: Cond.initialized (zEx 0) :: vx_atS RX11 74 (zEx 0) zNm) [269, 53, 43, 291, 300, 304, 307, 309, 292, 293, 65, 66, 294, 299, 305, 325, 281, 326, 283, 327, 285, 295, 297, 287, 321, 322, 324, 287, 312, 313, 314, 315, 273, 315, 316, 317, 318, 275, 318, 319, 320, 321, 277, 311, 270, 271, 278, 279, 280, 282, 284, 286, 290, 289, 288] = true := by decide +kernel
theorem zth_1 : zaln (Cond.classLink RX11 83 (zEx 1) :: Cond.initialized (zEx 1) :: vx_atS RX11 87 (zEx 1) zNm) [355, 46, 43, 291, 300, 304, 307, 309, 292, 293, 65, 66, 294, 299, 305, 325, 281, 326, 283, 327, 285, 295, 297, 287, 321, 322, 324, 287, 366, 367, 368, 315, 273, 315, 316, 317, 318, 275, 318, 319, 320, 321, 277, 365, 356, 357, 358, 302, 359, 360, 361, 362, 290, 289, 363] = true := by decide +kernel
theorem zth_2 : zaln (Cond.classLink RX11 578 (zEx 2) :: Cond.initialized (zEx 2) :: vx_atS RX11 582 (zEx 2) zNm) [499, 52, 43, 291, 300, 304, 307, 309, 292, 293, 65, 66, 294, 299, 305, 325, 281, 326, 283, 327, 285, 295, 297, 287, 321, 322, 324, 287, 510, 511, 512, 315, 273, 315, 316, 317, 318, 275, 318, 319, 320, 321, 277, 509, 500, 501, 502, 303, 503, 504, 505, 506, 290, 289, 507] = true := by decide +kernel
theorem zth_in {E ik ic : Nat} (h : (E = 0 ∧ ik = 70 ∧ ic = 74) ∨ (E = 1 ∧ ik = 83 ∧ ic = 87) ∨ (E = 2 ∧ ik = 578 ∧ ic = 582)) : ∀ w ∈ Cond.classLink RX11 ik (zEx E) :: Cond.initialized (zEx E) :: vx_atS RX11 ic (zEx E) zNm, w ∈ zTs ∨ w ∈ zXA := by
  rcases h with ⟨rfl, rfl, rfl⟩ | ⟨rfl, rfl, rfl⟩ | ⟨rfl, rfl, rfl⟩
  · exact zaln_in zth_0
  · exact zaln_in zth_1
  · exact zaln_in zth_2
theorem zfit : ∀ E, Bundle.fit (zEx E) = true
  | 0 => by decide +kernel
  | 1 => by decide +kernel
  | _ + 2 => (by decide +kernel : Bundle.fit "java/lang/IndexOutOfBoundsException" = true)
def zEk (E ik ic : Nat) : Bool := (Nat.beq E 0 && (Nat.beq ik 70 && Nat.beq ic 74)) || ((Nat.beq E 1 && (Nat.beq ik 83 && Nat.beq ic 87)) || (Nat.beq E 2 && (Nat.beq ik 578 && Nat.beq ic 582)))
noncomputable def zop (mi pc b : Nat) : Option Instr := match zfetch mi pc with
  | some o => bif Nat.beq o.1.2 b then some o.1.1 else none
  | none => none
noncomputable def zckT0 (mi pc : Nat) (o : zOp) (E : Nat) : Bool := (match o.1.1, zop mi (pc + 1) (o.1.2 + 3), zop mi (pc + 2) (o.1.2 + 4) with
    | .new ik, some .dup, some (.ldc is) => (match zop mi (pc + 3) (o.1.2 + 6), zop mi (pc + 4) (o.1.2 + 9) with
      | some (.invokespecial ic), some .athrow => zEk E ik ic && zSL.any (fun e => Nat.beq e.1 is)
      | _, _ => false)
    | .new ik, some .dup, some (.ldc_w is) => (match zop mi (pc + 3) (o.1.2 + 7), zop mi (pc + 4) (o.1.2 + 10) with
      | some (.invokespecial ic), some .athrow => zEk E ik ic && zSL.any (fun e => Nat.beq e.1 is)
      | _, _ => false)
    | _, _, _ => false) && (Nat.beq (zon mi) 11 && (Nat.ble 6 (zMt.2.2.2.2.1 mi) && Nat.ble 82 (zMt.2.2.2.2.2 mi)))
noncomputable def zckT (mi pc : Nat) (o : zOp) : Bool := match o.2.1 with
  | 11 :: E :: _ => zckT0 mi pc o E
  | _ => true
theorem zckT_0 : [0, 1, 2, 3, 4, 5, 6, 7, 8, 9, 10, 11, 12, 13, 14, 15].all (fun mi => zallB (zckT mi) 0 (zcode mi)) = true := by decide +kernel
theorem zckT_1 : [16, 17, 18, 19, 20, 21, 22, 23, 24, 25, 26, 27, 28, 29, 30, 31].all (fun mi => zallB (zckT mi) 0 (zcode mi)) = true := by decide +kernel
theorem zckT_2 : [32, 33, 34, 35, 36, 37, 38, 39, 40, 41, 42, 43, 44, 45, 46, 47].all (fun mi => zallB (zckT mi) 0 (zcode mi)) = true := by decide +kernel
theorem zckT_3 : [48, 49, 50, 51, 52, 53, 54, 55, 56, 57, 58, 59, 60, 61, 62, 63].all (fun mi => zallB (zckT mi) 0 (zcode mi)) = true := by decide +kernel
theorem zckT_4 : [64, 65, 66, 67, 68, 69, 70, 71, 72, 73, 74, 75, 76, 77, 78, 79].all (fun mi => zallB (zckT mi) 0 (zcode mi)) = true := by decide +kernel
theorem zckT_5 : [80, 81, 82, 83, 84, 85, 86, 87, 88, 89, 90, 91, 92, 93, 94, 95].all (fun mi => zallB (zckT mi) 0 (zcode mi)) = true := by decide +kernel
theorem zckT_6 : [96, 97, 98, 99, 100, 101, 102, 103, 104, 105, 106, 107, 108, 109, 110, 111].all (fun mi => zallB (zckT mi) 0 (zcode mi)) = true := by decide +kernel
theorem zckT_7 : [112, 113, 114, 115, 116, 117, 118, 119, 120, 121, 122, 123, 124, 125, 126, 127].all (fun mi => zallB (zckT mi) 0 (zcode mi)) = true := by decide +kernel
theorem zckT_8 : [128, 129, 130, 131, 132, 133, 134, 135, 136, 137, 138, 139, 140, 141, 142, 143].all (fun mi => zallB (zckT mi) 0 (zcode mi)) = true := by decide +kernel
theorem zckT_9 : [144, 145, 146, 147, 148, 149, 150, 151, 152, 153, 154, 155, 156, 157, 158, 159].all (fun mi => zallB (zckT mi) 0 (zcode mi)) = true := by decide +kernel
theorem zckT_10 : [160, 161, 162, 163, 164, 165, 166, 167, 168, 169, 170, 171, 172, 173, 174, 175].all (fun mi => zallB (zckT mi) 0 (zcode mi)) = true := by decide +kernel
theorem zckT_11 : [176, 177, 178, 179, 180, 181, 182, 183, 184, 185, 186, 187, 188, 189, 190, 191].all (fun mi => zallB (zckT mi) 0 (zcode mi)) = true := by decide +kernel
theorem zckT_12 : [192, 193, 194, 195, 196, 197, 198, 199, 200, 201, 202, 203, 204, 205, 206, 207].all (fun mi => zallB (zckT mi) 0 (zcode mi)) = true := by decide +kernel
theorem zckT_13 : [208, 209, 210, 211, 212, 213, 214, 215, 216, 217, 218, 219, 220, 221, 222, 223].all (fun mi => zallB (zckT mi) 0 (zcode mi)) = true := by decide +kernel
theorem zckT_14 : [224, 225, 226, 227, 228, 229, 230, 231, 232, 233, 234, 235, 236, 237, 238, 239].all (fun mi => zallB (zckT mi) 0 (zcode mi)) = true := by decide +kernel
theorem zckT_15 : [240, 241, 242, 243, 244, 245, 246, 247, 248, 249, 250, 251, 252, 253, 254, 255].all (fun mi => zallB (zckT mi) 0 (zcode mi)) = true := by decide +kernel
theorem zckT_16 : [256, 257, 258, 259, 260, 261, 262, 263, 264, 265, 266, 267, 268, 269, 270, 271].all (fun mi => zallB (zckT mi) 0 (zcode mi)) = true := by decide +kernel
theorem zckT_17 : [272, 273, 274, 275, 276, 277, 278, 279, 280, 281, 282, 283, 284, 285, 286, 287].all (fun mi => zallB (zckT mi) 0 (zcode mi)) = true := by decide +kernel
theorem zckT_18 : [288, 289, 290, 291, 292, 293].all (fun mi => zallB (zckT mi) 0 (zcode mi)) = true := by decide +kernel
theorem zckT_all {mi : Nat} (h : mi < 294) : zallB (zckT mi) 0 (zcode mi) = true := by
  have hm : mi / 16 < 19 := by omega
  match hq : mi / 16 with
  | 0 => exact zall_at zckT_0 (mi := mi) (by
      have : ∀ k, 0 ≤ k → k < 16 → (([0, 1, 2, 3, 4, 5, 6, 7, 8, 9, 10, 11, 12, 13, 14, 15] : List Nat).any fun x => Nat.beq x k) = true := by
        intro k h1 h2
        obtain ⟨d, rfl⟩ : ∃ d, k = 0 + d := ⟨k - 0, by omega⟩
        have hd : d < 16 := by omega
        revert h2
        clear h1
        revert d
        decide +kernel
      exact this mi (by omega) (by omega))
  | 1 => exact zall_at zckT_1 (mi := mi) (by
      have : ∀ k, 16 ≤ k → k < 32 → (([16, 17, 18, 19, 20, 21, 22, 23, 24, 25, 26, 27, 28, 29, 30, 31] : List Nat).any fun x => Nat.beq x k) = true := by
        intro k h1 h2
        obtain ⟨d, rfl⟩ : ∃ d, k = 16 + d := ⟨k - 16, by omega⟩
        have hd : d < 16 := by omega
        revert h2
        clear h1
        revert d
        decide +kernel
      exact this mi (by omega) (by omega))
  | 2 => exact zall_at zckT_2 (mi := mi) (by
      have : ∀ k, 32 ≤ k → k < 48 → (([32, 33, 34, 35, 36, 37, 38, 39, 40, 41, 42, 43, 44, 45, 46, 47] : List Nat).any fun x => Nat.beq x k) = true := by
        intro k h1 h2
        obtain ⟨d, rfl⟩ : ∃ d, k = 32 + d := ⟨k - 32, by omega⟩
        have hd : d < 16 := by omega
        revert h2
        clear h1
        revert d
        decide +kernel
      exact this mi (by omega) (by omega))
  | 3 => exact zall_at zckT_3 (mi := mi) (by
      have : ∀ k, 48 ≤ k → k < 64 → (([48, 49, 50, 51, 52, 53, 54, 55, 56, 57, 58, 59, 60, 61, 62, 63] : List Nat).any fun x => Nat.beq x k) = true := by
        intro k h1 h2
        obtain ⟨d, rfl⟩ : ∃ d, k = 48 + d := ⟨k - 48, by omega⟩
        have hd : d < 16 := by omega
        revert h2
        clear h1
        revert d
        decide +kernel
      exact this mi (by omega) (by omega))
  | 4 => exact zall_at zckT_4 (mi := mi) (by
      have : ∀ k, 64 ≤ k → k < 80 → (([64, 65, 66, 67, 68, 69, 70, 71, 72, 73, 74, 75, 76, 77, 78, 79] : List Nat).any fun x => Nat.beq x k) = true := by
        intro k h1 h2
        obtain ⟨d, rfl⟩ : ∃ d, k = 64 + d := ⟨k - 64, by omega⟩
        have hd : d < 16 := by omega
        revert h2
        clear h1
        revert d
        decide +kernel
      exact this mi (by omega) (by omega))
  | 5 => exact zall_at zckT_5 (mi := mi) (by
      have : ∀ k, 80 ≤ k → k < 96 → (([80, 81, 82, 83, 84, 85, 86, 87, 88, 89, 90, 91, 92, 93, 94, 95] : List Nat).any fun x => Nat.beq x k) = true := by
        intro k h1 h2
        obtain ⟨d, rfl⟩ : ∃ d, k = 80 + d := ⟨k - 80, by omega⟩
        have hd : d < 16 := by omega
        revert h2
        clear h1
        revert d
        decide +kernel
      exact this mi (by omega) (by omega))
  | 6 => exact zall_at zckT_6 (mi := mi) (by
      have : ∀ k, 96 ≤ k → k < 112 → (([96, 97, 98, 99, 100, 101, 102, 103, 104, 105, 106, 107, 108, 109, 110, 111] : List Nat).any fun x => Nat.beq x k) = true := by
        intro k h1 h2
        obtain ⟨d, rfl⟩ : ∃ d, k = 96 + d := ⟨k - 96, by omega⟩
        have hd : d < 16 := by omega
        revert h2
        clear h1
        revert d
        decide +kernel
      exact this mi (by omega) (by omega))
  | 7 => exact zall_at zckT_7 (mi := mi) (by
      have : ∀ k, 112 ≤ k → k < 128 → (([112, 113, 114, 115, 116, 117, 118, 119, 120, 121, 122, 123, 124, 125, 126, 127] : List Nat).any fun x => Nat.beq x k) = true := by
        intro k h1 h2
        obtain ⟨d, rfl⟩ : ∃ d, k = 112 + d := ⟨k - 112, by omega⟩
        have hd : d < 16 := by omega
        revert h2
        clear h1
        revert d
        decide +kernel
      exact this mi (by omega) (by omega))
  | 8 => exact zall_at zckT_8 (mi := mi) (by
      have : ∀ k, 128 ≤ k → k < 144 → (([128, 129, 130, 131, 132, 133, 134, 135, 136, 137, 138, 139, 140, 141, 142, 143] : List Nat).any fun x => Nat.beq x k) = true := by
        intro k h1 h2
        obtain ⟨d, rfl⟩ : ∃ d, k = 128 + d := ⟨k - 128, by omega⟩
        have hd : d < 16 := by omega
        revert h2
        clear h1
        revert d
        decide +kernel
      exact this mi (by omega) (by omega))
  | 9 => exact zall_at zckT_9 (mi := mi) (by
      have : ∀ k, 144 ≤ k → k < 160 → (([144, 145, 146, 147, 148, 149, 150, 151, 152, 153, 154, 155, 156, 157, 158, 159] : List Nat).any fun x => Nat.beq x k) = true := by
        intro k h1 h2
        obtain ⟨d, rfl⟩ : ∃ d, k = 144 + d := ⟨k - 144, by omega⟩
        have hd : d < 16 := by omega
        revert h2
        clear h1
        revert d
        decide +kernel
      exact this mi (by omega) (by omega))
  | 10 => exact zall_at zckT_10 (mi := mi) (by
      have : ∀ k, 160 ≤ k → k < 176 → (([160, 161, 162, 163, 164, 165, 166, 167, 168, 169, 170, 171, 172, 173, 174, 175] : List Nat).any fun x => Nat.beq x k) = true := by
        intro k h1 h2
        obtain ⟨d, rfl⟩ : ∃ d, k = 160 + d := ⟨k - 160, by omega⟩
        have hd : d < 16 := by omega
        revert h2
        clear h1
        revert d
        decide +kernel
      exact this mi (by omega) (by omega))
  | 11 => exact zall_at zckT_11 (mi := mi) (by
      have : ∀ k, 176 ≤ k → k < 192 → (([176, 177, 178, 179, 180, 181, 182, 183, 184, 185, 186, 187, 188, 189, 190, 191] : List Nat).any fun x => Nat.beq x k) = true := by
        intro k h1 h2
        obtain ⟨d, rfl⟩ : ∃ d, k = 176 + d := ⟨k - 176, by omega⟩
        have hd : d < 16 := by omega
        revert h2
        clear h1
        revert d
        decide +kernel
      exact this mi (by omega) (by omega))
  | 12 => exact zall_at zckT_12 (mi := mi) (by
      have : ∀ k, 192 ≤ k → k < 208 → (([192, 193, 194, 195, 196, 197, 198, 199, 200, 201, 202, 203, 204, 205, 206, 207] : List Nat).any fun x => Nat.beq x k) = true := by
        intro k h1 h2
        obtain ⟨d, rfl⟩ : ∃ d, k = 192 + d := ⟨k - 192, by omega⟩
        have hd : d < 16 := by omega
        revert h2
        clear h1
        revert d
        decide +kernel
      exact this mi (by omega) (by omega))
  | 13 => exact zall_at zckT_13 (mi := mi) (by
      have : ∀ k, 208 ≤ k → k < 224 → (([208, 209, 210, 211, 212, 213, 214, 215, 216, 217, 218, 219, 220, 221, 222, 223] : List Nat).any fun x => Nat.beq x k) = true := by
        intro k h1 h2
        obtain ⟨d, rfl⟩ : ∃ d, k = 208 + d := ⟨k - 208, by omega⟩
        have hd : d < 16 := by omega
        revert h2
        clear h1
        revert d
        decide +kernel
      exact this mi (by omega) (by omega))
  | 14 => exact zall_at zckT_14 (mi := mi) (by
      have : ∀ k, 224 ≤ k → k < 240 → (([224, 225, 226, 227, 228, 229, 230, 231, 232, 233, 234, 235, 236, 237, 238, 239] : List Nat).any fun x => Nat.beq x k) = true := by
        intro k h1 h2
        obtain ⟨d, rfl⟩ : ∃ d, k = 224 + d := ⟨k - 224, by omega⟩
        have hd : d < 16 := by omega
        revert h2
        clear h1
        revert d
        decide +kernel
      exact this mi (by omega) (by omega))
  | 15 => exact zall_at zckT_15 (mi := mi) (by
      have : ∀ k, 240 ≤ k → k < 256 → (([240, 241, 242, 243, 244, 245, 246, 247, 248, 249, 250, 251, 252, 253, 254, 255] : List Nat).any fun x => Nat.beq x k) = true := by
        intro k h1 h2
        obtain ⟨d, rfl⟩ : ∃ d, k = 240 + d := ⟨k - 240, by omega⟩
        have hd : d < 16 := by omega
        revert h2
        clear h1
        revert d
        decide +kernel
      exact this mi (by omega) (by omega))
  | 16 => exact zall_at zckT_16 (mi := mi) (by
      have : ∀ k, 256 ≤ k → k < 272 → (([256, 257, 258, 259, 260, 261, 262, 263, 264, 265, 266, 267, 268, 269, 270, 271] : List Nat).any fun x => Nat.beq x k) = true := by
        intro k h1 h2
        obtain ⟨d, rfl⟩ : ∃ d, k = 256 + d := ⟨k - 256, by omega⟩
        have hd : d < 16 := by omega
        revert h2
        clear h1
        revert d
        decide +kernel
      exact this mi (by omega) (by omega))
  | 17 => exact zall_at zckT_17 (mi := mi) (by
      have : ∀ k, 272 ≤ k → k < 288 → (([272, 273, 274, 275, 276, 277, 278, 279, 280, 281, 282, 283, 284, 285, 286, 287] : List Nat).any fun x => Nat.beq x k) = true := by
        intro k h1 h2
        obtain ⟨d, rfl⟩ : ∃ d, k = 272 + d := ⟨k - 272, by omega⟩
        have hd : d < 16 := by omega
        revert h2
        clear h1
        revert d
        decide +kernel
      exact this mi (by omega) (by omega))
  | 18 => exact zall_at zckT_18 (mi := mi) (by
      have : ∀ k, 288 ≤ k → k < 294 → (([288, 289, 290, 291, 292, 293] : List Nat).any fun x => Nat.beq x k) = true := by
        intro k h1 h2
        obtain ⟨d, rfl⟩ : ∃ d, k = 288 + d := ⟨k - 288, by omega⟩
        have hd : d < 16 := by omega
        revert h2
        clear h1
        revert d
        decide +kernel
      exact this mi (by omega) (by omega))
  | n + 19 => omega
theorem zop_dec {mi pc b : Nat} {i : Instr} (h : zop mi pc b = some i) (hn : ∀ d lo hi offs, i ≠ .tableswitch d lo hi offs) : decode (zMt.2.1 mi) b = .ok (i, zlen i) := by
  unfold zop at h
  split at h
  · rename_i o ho
    cases hb : Nat.beq o.1.2 b with
    | false =>
      rw [hb] at h
      cases h
    | true =>
      rw [hb, cond_true] at h
      cases h
      rw [← Nat.eq_of_beq_eq_true hb]
      rcases (zF1_ok mi pc o ho).1 with h1 | ⟨d, lo, hi, offs, len, h1, -⟩
      · exact h1
      · exact absurd h1 (hn _ _ _ _)
  · cases h
theorem zhh_b : (List.range 304).all (fun mi => (zPr.2.2 mi).isEmpty == (zMt.2.2.2.1 mi).isEmpty) = true := by decide +kernel
theorem zhh (mi : Nat) : zPr.2.2 mi = [] ↔ zMt.2.2.2.1 mi = [] := by
  rcases Nat.lt_or_ge mi 304 with h | h
  · have h1 := eq_of_beq (List.all_eq_true.mp zhh_b mi (List.mem_range.mpr h))
    rw [← List.isEmpty_iff, ← List.isEmpty_iff, h1]
  · have l1 : zhds.length = 19 := by decide +kernel
    have l2 : zhm.length = 19 := by decide +kernel
    have e1 : zPr.2.2 mi = [] := by
      show (((zhds[mi / 16]?.getD [])[mi % 16]?).getD []) = []
      rw [List.getElem?_eq_none (show zhds.length ≤ mi / 16 by omega)]
      rfl
    have e2 : zMt.2.2.2.1 mi = [] := by
      show (((zhm[mi / 16]?.getD [])[mi % 16]?).getD []) = []
      rw [List.getElem?_eq_none (show zhm.length ≤ mi / 16 by omega)]
      rfl
    rw [e1, e2]
set_option maxHeartbeats 2000000 in
theorem zThrow_ok {G : zG} {X : State → Prop} (hX : ∀ s, X s → zXN s ∧ zXT G s) : zThrowOK zPr zMt G X := by
  intro mi pc o E a ho hg hnh p l e R s m args below meth c hC H locs cells slots mc ms ls Qc XC hS hsz hc hs hrc hrs hx
  have ho : zfetch mi pc = some o := ho
  have hm := zmi_lt2 ho
  have hk := zfetch_all (zckT_all hm) ho
  obtain ⟨c1, c2, c3, c4, c5, c6, c7, c8, c9, c10, c11, c12, c13, c14⟩ := hC
  obtain ⟨hXN, hXD, hXS, hU, hN⟩ := hX s c13
  unfold zckT at hk
  rw [hg] at hk
  have hk : zckT0 mi pc o E = true := hk
  unfold zckT0 at hk
  rw [Bool.and_eq_true, Bool.and_eq_true, Bool.and_eq_true] at hk
  obtain ⟨hk, k1, k2, k3⟩ := hk
  have k1 := Nat.eq_of_beq_eq_true k1
  have k2 := Nat.le_of_ble_eq_true k2
  have k3 := Nat.le_of_ble_eq_true k3
  have hcls : (zMt.1 mi).cls = RX11 := by
    have h1 := zown_ok hm
    rw [k1] at h1
    exact (Option.some.inj h1).symm
  rw [hcls] at c4
  have htab : c.exceptionTable.toList = [] := by
    rw [c8, (zhh mi).mp hnh]
    rfl
  have hout : ∀ q, ∀ x ∈ c.exceptionTable.toList, covers x q = false := fun q x hx => by
    rw [htab] at hx
    exact absurd hx List.not_mem_nil
  have hws : ∀ {ik ic : Nat}, zEk E ik ic = true → ∀ w ∈ Cond.classLink RX11 ik (zEx E) :: Cond.initialized (zEx E) :: vx_atS RX11 ic (zEx E) zNm, w ∈ zTs ∨ w ∈ zXA := by
    intro ik ic h
    refine zth_in ?_
    unfold zEk at h
    simp only [Bool.or_eq_true, Bool.and_eq_true, Nat.beq_eq] at h
    exact h
  have hbf : ∀ w, w ∈ zTs ∨ w ∈ zXA → w.before args s = true := fun w hw => hw.elim (c5 w) (fun h => zXA_use hXN hXD h)
  have hnm : ∀ n ∈ zNm, Bundle.fit n = true := by decide +kernel
  have d0 : ∀ {i : Instr}, o.1.1 = i → (∀ d lo hi offs, i ≠ .tableswitch d lo hi offs) → decode (zMt.2.1 mi) o.1.2 = .ok (i, zlen i) := by
    intro i hi hn
    rcases (zF1_ok mi pc o ho).1 with h1 | ⟨d, lo, hi', offs, len, h1, -⟩
    · rw [h1, hi]
    · exact absurd (hi.symm.trans h1) (hn _ _ _ _)
  have hst : ∀ {is : Nat}, (zSL.any fun e => Nat.beq e.1 is) = true → ∃ (t : String) (a : Nat), vk_R RX11 is t a s := by
    intro is h
    obtain ⟨⟨i, t⟩, he, hb⟩ := List.any_eq_true.mp h
    have e := Nat.eq_of_beq_eq_true hb
    subst e
    obtain ⟨a, ha⟩ := hXS _ he
    exact ⟨t, a, ha⟩
  split at hk
  · rename_i ik is e1 e2 e3
    split at hk
    · rename_i ic e4 e5
      rw [Bool.and_eq_true] at hk
      obtain ⟨t, sa, hv⟩ := hst hk.2
      have hw := hws hk.1
      exact vx_throwS c1 c2 c14 (names := zNm) c4 (zfit E) hnm (hbf _ (hw _ List.mem_cons_self)) (hbf _ (hw _ (List.mem_cons_of_mem _ List.mem_cons_self))) hv (fun w h => hbf _ (hw _ (List.mem_cons_of_mem _ (List.mem_cons_of_mem _ h))))
        (fun w h => zvx_ot (hw w h)) hU hN hS hsz (d0 e1 (fun _ _ _ _ => by simp)) (zop_dec e2 (fun _ _ _ _ => by simp)) (zop_dec e3 (fun _ _ _ _ => by simp)) (zop_dec e4 (fun _ _ _ _ => by simp)) (zop_dec e5 (fun _ _ _ _ => by simp)) (hout _)
        (by show 2 + 3 < _; omega) (by show 0 + (13 * (2 + 1) + 43) ≤ _; omega) (by omega) (by omega) c7 hx hS.2.2 hc hs
    · cases hk
  · rename_i ik is e1 e2 e3
    split at hk
    · rename_i ic e4 e5
      rw [Bool.and_eq_true] at hk
      obtain ⟨t, sa, hv⟩ := hst hk.2
      have hw := hws hk.1
      exact vx_throwSW c1 c2 c14 (names := zNm) c4 (zfit E) hnm (hbf _ (hw _ List.mem_cons_self)) (hbf _ (hw _ (List.mem_cons_of_mem _ List.mem_cons_self))) hv (fun w h => hbf _ (hw _ (List.mem_cons_of_mem _ (List.mem_cons_of_mem _ h))))
        (fun w h => zvx_ot (hw w h)) hU hN hS hsz (d0 e1 (fun _ _ _ _ => by simp)) (zop_dec e2 (fun _ _ _ _ => by simp)) (zop_dec e3 (fun _ _ _ _ => by simp)) (zop_dec e4 (fun _ _ _ _ => by simp)) (zop_dec e5 (fun _ _ _ _ => by simp)) (hout _)
        (by show 2 + 3 < _; omega) (by show 0 + (13 * (2 + 1) + 43) ≤ _; omega) (by omega) (by omega) c7 hx hS.2.2 hc hs
    · cases hk
  · cases hk
