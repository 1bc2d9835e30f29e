set_option maxRecDepth 16384
/-! The start: what the tables and the premises say of the state at the law's entry. -/
def zwI (i : Nat) (w : Cond) : Bool := match lw_tbl[i]? with
  | some v => decide (v = w)
  | none => false
theorem zwI_in {i : Nat} {w : Cond} (h : zwI i w = true) : w ∈ lw_tbl := by
  unfold zwI at h
  split at h
  · rename_i v hv
    have e := of_decide_eq_true h
    subst e
    exact List.mem_of_getElem? hv
  · cases h
def zalw : List Cond → List Nat → Bool
  | [], _ => true
  | w :: l, i :: r => zwI i w && zalw l r
  | _ :: _, [] => false
theorem zalw_in : ∀ {l : List Cond} {r : List Nat}, zalw l r = true → ∀ w ∈ l, w ∈ lw_tbl
  | [], _, _, w, hw => absurd hw List.not_mem_nil
  | x :: l, i :: r, h, w, hw => by
    rw [zalw, Bool.and_eq_true] at h
    rcases List.mem_cons.mp hw with rfl | hw
    · exact zwI_in h.1
    · exact zalw_in h.2 w hw
  | x :: l, [], h, _, _ => by cases h
theorem zUl_0 : zalw (u_ws RX0 TX0 12) [403, 405, 407, 409, 411, 413, 415, 417, 419, 421, 423, 425] = true := by decide +kernel
theorem zUi_0 : zwI 372 (Cond.instantiable RX0 12) = true := by decide +kernel
theorem zUl_1 : zalw (u_ws RX0 TX0 12) [403, 405, 407, 409, 411, 413, 415, 417, 419, 421, 423, 425] = true := by decide +kernel
theorem zUi_1 : zwI 372 (Cond.instantiable RX0 12) = true := by decide +kernel
theorem zUl_2 : zalw (u_ws RX2 TX2 5) [197, 199, 201, 203, 205] = true := by decide +kernel
theorem zUi_2 : zwI 188 (Cond.instantiable RX2 5) = true := by decide +kernel
theorem zUl_3 : zalw (u_ws RX0 TX0 12) [403, 405, 407, 409, 411, 413, 415, 417, 419, 421, 423, 425] = true := by decide +kernel
theorem zUi_3 : zwI 372 (Cond.instantiable RX0 12) = true := by decide +kernel
theorem zUl_4 : zalw (u_ws RX4 TX4 5) [563, 565, 567, 569, 571] = true := by decide +kernel
theorem zUi_4 : zwI 548 (Cond.instantiable RX4 5) = true := by decide +kernel
theorem zUl_5 : zalw (u_ws RX5 TX5 11) [626, 628, 630, 632, 634, 636, 638, 640, 642, 644, 646] = true := by decide +kernel
theorem zUi_5 : zwI 601 (Cond.instantiable RX5 11) = true := by decide +kernel
theorem zUl_6 : zalw (u_ws RX0 TX0 12) [403, 405, 407, 409, 411, 413, 415, 417, 419, 421, 423, 425] = true := by decide +kernel
theorem zUi_6 : zwI 372 (Cond.instantiable RX0 12) = true := by decide +kernel
theorem zUl_7 : zalw (u_ws RX7 TX7 4) [122, 124, 126, 128] = true := by decide +kernel
theorem zUi_7 : zwI 112 (Cond.instantiable RX7 4) = true := by decide +kernel
theorem zUl_8 : zalw (u_ws RX8 TX8 8) [171, 173, 175, 177, 179, 181, 183, 185] = true := by decide +kernel
theorem zUi_8 : zwI 97 (Cond.instantiable RX8 8) = true := by decide +kernel
theorem zUl_9 : zalw (u_ws RX9 TX9 7) [146, 148, 150, 152, 154, 156, 158] = true := by decide +kernel
theorem zUi_9 : zwI 106 (Cond.instantiable RX9 7) = true := by decide +kernel
theorem zUl_10 : zalw (u_ws RX0 TX0 12) [403, 405, 407, 409, 411, 413, 415, 417, 419, 421, 423, 425] = true := by decide +kernel
theorem zUi_10 : zwI 372 (Cond.instantiable RX0 12) = true := by decide +kernel
theorem zUl_11 : zalw (u_ws RX11 TX11 18) [225, 227, 229, 231, 233, 235, 237, 239, 241, 243, 245, 247, 249, 251, 253, 255, 257, 259] = true := by decide +kernel
theorem zUi_11 : zwI 60 (Cond.instantiable RX11 18) = true := by decide +kernel
theorem zUl_12 : zalw (u_ws RX0 TX0 12) [403, 405, 407, 409, 411, 413, 415, 417, 419, 421, 423, 425] = true := by decide +kernel
theorem zUi_12 : zwI 372 (Cond.instantiable RX0 12) = true := by decide +kernel
theorem zUi_13 : zwI 68 (Cond.instantiable RJx4a65c 3) = true := by decide +kernel
theorem zKn {s : State} {args : Array Value} (hts : ∀ w ∈ lw_tbl, w.before args s = true) : ∀ (c : Nat) (q : vw_C), zcl[c]? = some q → ∃ (cC : ClassId) (iS : Nat → Nat), u_Kn s q.1 q.2.1 q.2.2 cC iS
  | 0, _, rfl => u_known hts (zalw_in zUl_0) (hts _ (zwI_in zUi_0))
  | 1, _, rfl => u_known hts (zalw_in zUl_1) (hts _ (zwI_in zUi_1))
  | 2, _, rfl => u_known hts (zalw_in zUl_2) (hts _ (zwI_in zUi_2))
  | 3, _, rfl => u_known hts (zalw_in zUl_3) (hts _ (zwI_in zUi_3))
  | 4, _, rfl => u_known hts (zalw_in zUl_4) (hts _ (zwI_in zUi_4))
  | 5, _, rfl => u_known hts (zalw_in zUl_5) (hts _ (zwI_in zUi_5))
  | 6, _, rfl => u_known hts (zalw_in zUl_6) (hts _ (zwI_in zUi_6))
  | 7, _, rfl => u_known hts (zalw_in zUl_7) (hts _ (zwI_in zUi_7))
  | 8, _, rfl => u_known hts (zalw_in zUl_8) (hts _ (zwI_in zUi_8))
  | 9, _, rfl => u_known hts (zalw_in zUl_9) (hts _ (zwI_in zUi_9))
  | 10, _, rfl => u_known hts (zalw_in zUl_10) (hts _ (zwI_in zUi_10))
  | 11, _, rfl => u_known hts (zalw_in zUl_11) (hts _ (zwI_in zUi_11))
  | 12, _, rfl => u_known hts (zalw_in zUl_12) (hts _ (zwI_in zUi_12))
  | 13, _, rfl => u_known hts (fun w hw => (List.mem_filter.mp (zAL w hw)).1) (hts _ (zwI_in zUi_13))
  | c + 14, q, h => by cases h
theorem zAc {s : State} {args : Array Value} {ty : FieldType} (h : (Cond.arrayClass ty).before args s = true) (hn : ∀ C, ty ≠ .object C) : ∃ cA : ClassId, ArrOfT s cA ty ∧ va_RA s cA ty := by
  obtain ⟨c, k, comp, h1, h2, h3⟩ := Cond.arrayClass_spec h
  refine ⟨c, fun n z => ⟨fun k h => (by cases h), k, h2, comp, h3⟩, ?_⟩
  cases ty with
  | object C => exact absurd rfl (hn C)
  | _ => exact h1
theorem zAo {s : State} {args : Array Value} {C : String} (h : (Cond.arrayOver (.object C)).before args s = true) : ∃ cA : ClassId, ArrOfT s cA (.object C) ∧ va_RA s cA (.object C) := by
  obtain ⟨comp, c, k, h1, h2, h3, h4, h5⟩ := Cond.arrayOver_spec h
  exact ⟨c, fun n z => ⟨fun k h => (by cases h), k, h3, comp, h4⟩, k, comp, h3, h4, h1, h5⟩
def zty9 (k : Nat) : FieldType := match k with
  | 0 => .int
  | 1 => .boolean
  | 2 => .int
  | 3 => .int
  | 4 => .object RX0
  | 5 => .object RX9
  | 6 => .object RX8
  | 7 => .object RX2
  | _ => .object "java/lang/Object"
theorem zKa {s : State} {args : Array Value} (hts : ∀ w ∈ lw_tbl, w.before args s = true) : ∀ k : Nat, ∃ cA : ClassId, ArrOfT s cA (zty9 k) ∧ va_RA s cA (zty9 k)
  | 0 => zAc (ty := .int) (hts _ (zwI_in (i := 131) (by decide +kernel))) (fun C h => by cases h)
  | 1 => zAc (ty := .boolean) (hts _ (zwI_in (i := 649) (by decide +kernel))) (fun C h => by cases h)
  | 2 => zAc (ty := .int) (hts _ (zwI_in (i := 131) (by decide +kernel))) (fun C h => by cases h)
  | 3 => zAc (ty := .int) (hts _ (zwI_in (i := 131) (by decide +kernel))) (fun C h => by cases h)
  | 4 => zAo (hts _ (zwI_in (i := 105) (by decide +kernel)))
  | 5 => zAo (hts _ (zwI_in (i := 103) (by decide +kernel)))
  | 6 => zAo (hts _ (zwI_in (i := 94) (by decide +kernel)))
  | 7 => zAo (hts _ (zwI_in (i := 96) (by decide +kernel)))
  | k + 8 => zAo (hts _ (zwI_in (i := 482) (by decide +kernel)))
theorem zKst {s : State} {args : Array Value} (hts : ∀ w ∈ lw_tbl, w.before args s = true) : ∃ (D : va_G) (dA : Nat → ClassId), va_K D zcl (ztys dA) s := by
  have h1 : ∀ c : Nat, ∃ p : ClassId × (Nat → Nat), ∀ q : vw_C, zcl[c]? = some q → u_Kn s q.1 q.2.1 q.2.2 p.1 p.2 := by
    intro c
    cases hc : zcl[c]? with
    | none => exact ⟨(0, fun _ => 0), fun q h => by cases h⟩
    | some q0 =>
      obtain ⟨cC, iS, h⟩ := zKn hts c q0 hc
      exact ⟨(cC, iS), fun q hq => by cases hq; exact h⟩
  obtain ⟨f, hf⟩ := Classical.skolem.mp h1
  obtain ⟨dA, hA⟩ := Classical.skolem.mp (zKa hts)
  refine ⟨(fun c => (f c).1, fun c => (f c).2), dA, fun c q hq => hf c q hq, ?_⟩
  intro k q hq
  match k, hq with
  | 0, hq => cases hq; exact hA 0
  | 1, hq => cases hq; exact hA 1
  | 2, hq => cases hq; exact hA 2
  | 3, hq => cases hq; exact hA 3
  | 4, hq => cases hq; exact hA 4
  | 5, hq => cases hq; exact hA 5
  | 6, hq => cases hq; exact hA 6
  | 7, hq => cases hq; exact hA 7
  | 8, hq => cases hq; exact hA 8
  | k + 9, hq => cases hq
abbrev zPre : Cond := Jvm.Cond.and given_1 narrow_1
def zflat (c : Cond) : Bool := (flatC zPre).any fun x => decide (x = c)
theorem zflat_in {c : Cond} {args : Array Value} {s : State} (hp : zPre.before args s = true) (h : zflat c = true) : c.before args s = true := by
  obtain ⟨x, hx, e⟩ := List.any_eq_true.mp h
  have e := of_decide_eq_true e
  subst e
  exact flat_of_before _ hp _ hx
theorem zfl_s : zSL.all (fun e => zflat (Cond.exactly (Term.string RX11 e.1) "java/lang/String")) = true := by decide +kernel
theorem zfl_w : zSL.all (fun e => lw_tbl.any fun x => decide (x = Cond.stringRef RX11 e.1 e.2)) = true := by decide +kernel
theorem zXst_S {s : State} {args : Array Value} (hts : ∀ w ∈ lw_tbl, w.before args s = true) (hp : zPre.before args s = true) : zXS s := by
  intro e he
  have h1 := List.all_eq_true.mp zfl_s e he
  obtain ⟨x, hx, e2⟩ := List.any_eq_true.mp (List.all_eq_true.mp zfl_w e he)
  have e2 := of_decide_eq_true e2
  subst e2
  obtain ⟨a, c, cell, k, h2, -⟩ := Cond.exactly_spec (zflat_in hp h1)
  exact ⟨a, vk_R.of (A := args) (hts _ hx) h2⟩
theorem zXst_C {s : State} {args : Array Value} (_hp : zPre.before args s = true) : zXC s := trivial
theorem zXst_N {s : State} {args : Array Value} (hts : ∀ w ∈ lw_tbl, w.before args s = true) : ∀ w ∈ zXA, va_Nw w s := by
  intro w hw
  refine va_Nw.of (zXA_tb hw) (hts w ?_)
  rcases List.mem_append.mp hw with h | h <;> exact (List.mem_filter.mp h).1
theorem zXst_T {G : zG} {s : State} {args : Array Value} (hts : ∀ w ∈ lw_tbl, w.before args s = true) (hp : zPre.before args s = true) (hA : ∀ a : Nat, a < s.heap.size → ¬ G.2.2.2.1 a) : zXT G s :=
  ⟨fun w hw => zXst_N hts w (List.mem_append.mpr (Or.inr hw)), zXst_S hts hp, vx_Zqof (hts _ (zwI_in (i := 296) (by decide +kernel))) (hts _ (zwI_in (i := 43) (by decide +kernel))) (zflat_in hp (by decide +kernel)) hA, vx_Zqof (hts _ (zwI_in (i := 298) (by decide +kernel))) (hts _ (zwI_in (i := 43) (by decide +kernel))) (zflat_in hp (by decide +kernel)) hA⟩
theorem zlen0 {s : State} {args : Array Value} {t : Term} {a : Nat} {cell : Cell} (h1 : t.eval args s none [] s = some (.ref a)) (h5 : (Cond.eq (.length t) (.int 0)).before args s = true) (h3 : s.heap[a]? = some cell) : cell.slots.size = 0 := by
  have h5 : (Cond.eq (.length t) (.int 0)).holds args s none s [] = true := h5
  simp only [Cond.holds, Cond.value, Term.eval, h1] at h5
  cases ha : s.arrayAt? a with
  | none => simp [ha] at h5
  | some c =>
    obtain ⟨hc, -⟩ := State.arrayAt?_spec ha
    cases h3.symm.trans hc
    by_cases hs : cell.slots.size < 2 ^ 31
    · simp [ha, hs] at h5
      exact (toInt32_eq_zero hs).mp h5
    · simp [ha, hs] at h5
theorem zXst_L {s : State} {args : Array Value} (hts : ∀ w ∈ lw_tbl, w.before args s = true) (hp : zPre.before args s = true) : ∃ df m0 : Nat, ∀ G : zG, G.2.2.1 = df → (∀ a : Nat, a < s.heap.size → ¬ G.2.2.2.1 a) → zXL G m0 s := by
  obtain ⟨df, c, cell, k, h1, h2, h3, -⟩ := Cond.exactly_spec (zflat_in (c := Cond.exactly (.static RJx4a65c "DEFAULTCAPACITY_EMPTY_ELEMENTDATA" "[Ljava/lang/Object;") "[Ljava/lang/Object;") hp (by decide +kernel))
  obtain ⟨h4, h4'⟩ := Cond.arrayOf_spec (zflat_in (c := Cond.arrayOf (.static RJx4a65c "DEFAULTCAPACITY_EMPTY_ELEMENTDATA" "[Ljava/lang/Object;") (.object "java/lang/Object")) hp (by decide +kernel)) h1 h3
  have h5 := zflat_in (c := Cond.eq (.length (.static RJx4a65c "DEFAULTCAPACITY_EMPTY_ELEMENTDATA" "[Ljava/lang/Object;")) (.int 0)) hp (by decide +kernel)
  obtain ⟨m0, h6⟩ := va_Mi.of (zflat_in (c := Cond.isRef (.mirror "[Ljava/lang/Object;")) hp (by decide +kernel))
  have h7 : cell.slots.size = 0 := zlen0 h1 h5 h3
  have hlt : df < s.heap.size := (Array.getElem?_eq_some_iff.mp h3).1
  refine ⟨df, m0, fun G hG hA => ⟨?_, ⟨cell, by rw [hG]; exact h3, h4, h7, by rw [hG]; exact hA _ hlt⟩, h6, va_Fw.of (A := args) (hts _ (zwI_in (i := 348) (by decide +kernel))) (hts _ (zwI_in (i := 347) (by decide +kernel))) (hts _ (zwI_in (i := 353) (by decide +kernel))) (hts _ (zwI_in (i := 351) (by decide +kernel))) (hts _ (zwI_in (i := 349) (by decide +kernel))), va_Fw.of (A := args) (hts _ (zwI_in (i := 518) (by decide +kernel))) (hts _ (zwI_in (i := 517) (by decide +kernel))) (hts _ (zwI_in (i := 522) (by decide +kernel))) (hts _ (zwI_in (i := 520) (by decide +kernel))) (hts _ (zwI_in (i := 349) (by decide +kernel))), va_Fw.of (A := args) (hts _ (zwI_in (i := 431) (by decide +kernel))) (hts _ (zwI_in (i := 430) (by decide +kernel))) (hts _ (zwI_in (i := 435) (by decide +kernel))) (hts _ (zwI_in (i := 433) (by decide +kernel))) (hts _ (zwI_in (i := 349) (by decide +kernel))), va_AO.of (A := args) (hts _ (zwI_in (i := 482) (by decide +kernel))), va_Nw.of rfl (A := args) (hts _ (zwI_in (i := 1014) (by decide +kernel)))⟩⟩
  rw [hG]
  exact va_Zof (args := args) (hts _ (zwI_in (i := 80) (by decide +kernel))) (hts _ (zwI_in (i := 38) (by decide +kernel))) h1 hA
theorem zXst_A {s : State} {args : Array Value} (hts : ∀ w ∈ lw_tbl, w.before args s = true) : ∀ C ∈ zAOl, va_AO C s := by
  have h : zAOl.all (fun C => lw_tbl.any fun x => decide (x = Cond.arrayOver (.object C))) = true := by decide +kernel
  intro C hC
  obtain ⟨x, hx, e⟩ := List.any_eq_true.mp (List.all_eq_true.mp h C hC)
  have e := of_decide_eq_true e
  subst e
  exact va_AO.of (A := args) (hts _ hx)
