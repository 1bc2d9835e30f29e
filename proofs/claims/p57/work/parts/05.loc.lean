/-! The small machine's locals and the true ones; instructions that leave the heap alone. -/
def ztv (ρ : Nat → Nat → Nat) (v : zV) : Value := match v with
  | .inl v => v
  | .inr q => .ref (ρ q.1 q.2)
theorem ztv_cat (ρ : Nat → Nat → Nat) (v : zV) : (ztv ρ v).category = zcat v := by
  cases v <;> rfl
def zLV (nL : Nat) (ρ : Nat → Nat → Nat) (L : zLs) (ls : Array Slot) : Prop := ls.size = nL ∧ lv_wf ls ∧ L.length = nL ∧ ∀ i v, zget L i = some v → ls[i]? = some (.val (ztv ρ v))
def zls (nL : Nat) (ρ : Nat → Nat → Nat) (L : zLs) : List (Nat × Value) := (List.range nL).filterMap fun i => (zget L i).map fun v => (i, ztv ρ v)
theorem zget_lt {L : zLs} {i : Nat} {v : zV} (h : zget L i = some v) : i < L.length := by
  unfold zget at h
  cases hi : L[i]? with
  | none => simp [hi] at h
  | some x => exact (List.getElem?_eq_some_iff.mp hi).1
theorem zls_mem {nL : Nat} {ρ : Nat → Nat → Nat} {L : zLs} {i : Nat} {w : Value} (hL : L.length = nL) : (i, w) ∈ zls nL ρ L ↔ ∃ v, zget L i = some v ∧ w = ztv ρ v := by
  unfold zls
  rw [List.mem_filterMap]
  constructor
  · rintro ⟨j, -, hj⟩
    cases hz : zget L j with
    | none => rw [hz] at hj; cases hj
    | some v =>
      rw [hz] at hj
      simp only [Option.map_some, Option.some.injEq, Prod.mk.injEq] at hj
      obtain ⟨rfl, rfl⟩ := hj
      exact ⟨v, hz, rfl⟩
  · rintro ⟨v, hv, rfl⟩
    exact ⟨i, List.mem_range.mpr (hL ▸ zget_lt hv), by rw [hv]; rfl⟩
theorem zLV.has {nL : Nat} {ρ : Nat → Nat → Nat} {L : zLs} {ls : Array Slot} (h : zLV nL ρ L ls) : lv_has ls nL (zls nL ρ L) := by
  refine ⟨h.1, h.2.1, fun q hq => ?_⟩
  obtain ⟨v, h1, h2⟩ := (zls_mem h.2.2.1).mp hq
  rw [h.2.2.2 _ _ h1, h2]
theorem zget_set {L : zLs} {i j : Nat} {x : Option zV} : zget (L.set i x) j = if i = j then (if i < L.length then x else none) else zget L j := by
  unfold zget
  rw [List.getElem?_set]
  by_cases h : i = j
  · subst h
    simp only [if_true]
    by_cases hl : i < L.length
    · simp only [if_pos hl]
      cases x <;> rfl
    · simp only [if_neg hl]
  · simp only [if_neg h]
theorem zpre_succ (L : zLs) (i : Nat) : zpre L (i + 1) = (match zget L i with | some v => bif zcat v == 2 then L.set i none else L | none => L) := rfl
theorem zpre_len (L : zLs) (i : Nat) : (zpre L i).length = L.length := by
  cases i with
  | zero => rfl
  | succ i =>
    rw [zpre_succ]
    cases zget L i with
    | none => rfl
    | some v =>
      dsimp only
      cases zcat v == 2 <;> simp
theorem zset_len (L : zLs) (i : Nat) (v : zV) : (zset L i v).length = L.length := by
  unfold zset
  cases zcat v == 2 <;> simp [zpre_len]
theorem zpre_get {L : zLs} {i j : Nat} {w : zV} (h : zget (zpre L i) j = some w) : zget L j = some w ∧ (j + 1 = i → zcat w ≠ 2) := by
  cases i with
  | zero => exact ⟨h, fun e => absurd e (Nat.succ_ne_zero j)⟩
  | succ i =>
    rw [zpre_succ] at h
    cases hz : zget L i with
    | none =>
      rw [hz] at h
      refine ⟨h, fun e => ?_⟩
      have : j = i := by omega
      subst this
      dsimp only at h
      rw [hz] at h
      cases h
    | some v =>
      rw [hz] at h
      dsimp only at h
      cases hc : zcat v == 2 with
      | true =>
        rw [hc, cond_true, zget_set] at h
        by_cases e : i = j
        · rw [if_pos e] at h
          split at h <;> cases h
        · rw [if_neg e] at h
          exact ⟨h, fun e2 => absurd (by omega) e⟩
      | false =>
        rw [hc, cond_false] at h
        refine ⟨h, fun e2 => ?_⟩
        have e3 : j = i := by omega
        subst e3
        rw [hz] at h
        cases h
        intro e4
        rw [e4] at hc
        cases hc
theorem zLV.set1 {nL : Nat} {ρ : Nat → Nat → Nat} {L : zLs} {ls' : Array Slot} {i : Nat} {v : zV} (hL : L.length = nL) (hc : zcat v = 1) (h : lv_has ls' nL ((i, ztv ρ v) :: (zls nL ρ L).filter (fun q => !(q.1 == i) && !(q.1 + 1 == i && q.2.category == 2)))) : zLV nL ρ (zset L i v) ls' := by
  refine ⟨h.1, h.2.1, (zset_len L i v).trans hL, fun j w hj => ?_⟩
  have hc2 : (zcat v == 2) = false := by rw [hc]; rfl
  unfold zset at hj
  rw [hc2, cond_false] at hj
  obtain ⟨h1, h2⟩ := zpre_get hj
  rw [zget_set] at h1
  by_cases e : i = j
  · rw [if_pos e] at h1
    split at h1
    · cases h1
      exact h.2.2 (j, ztv ρ v) (by rw [e]; exact List.mem_cons_self)
    · cases h1
  · rw [if_neg e] at h1
    refine h.2.2 (j, ztv ρ w) (List.mem_cons_of_mem _ (List.mem_filter.mpr ⟨(zls_mem hL).mpr ⟨w, h1, rfl⟩, ?_⟩))
    have e1 : (j == i) = false := by simp; omega
    simp only [e1, Bool.not_false, Bool.true_and, Bool.not_eq_true', Bool.and_eq_false_iff, beq_eq_false_iff_ne, ne_eq]
    by_cases e2 : j + 1 = i
    · right
      rw [ztv_cat]
      exact h2 e2
    · exact Or.inl e2
theorem zLV.set2 {nL : Nat} {ρ : Nat → Nat → Nat} {L : zLs} {ls' : Array Slot} {i : Nat} {v : zV} (hL : L.length = nL) (hc : zcat v = 2) (h : lv_has ls' nL ((i, ztv ρ v) :: (zls nL ρ L).filter (fun q => !(q.1 == i) && (!(q.1 == i + 1) && !(q.1 + 1 == i && q.2.category == 2))))) : zLV nL ρ (zset L i v) ls' := by
  have hc2 : (zcat v == 2) = true := by rw [hc]; rfl
  refine ⟨h.1, h.2.1, (zset_len L i v).trans hL, fun j w hj => ?_⟩
  unfold zset at hj
  rw [hc2, cond_true, zget_set] at hj
  by_cases e0 : i + 1 = j
  · rw [if_pos e0] at hj
    split at hj <;> cases hj
  · rw [if_neg e0] at hj
    obtain ⟨h1, h2⟩ := zpre_get hj
    rw [zget_set] at h1
    by_cases e : i = j
    · rw [if_pos e] at h1
      split at h1
      · cases h1
        exact h.2.2 (j, ztv ρ v) (by rw [e]; exact List.mem_cons_self)
      · cases h1
    · rw [if_neg e] at h1
      refine h.2.2 (j, ztv ρ w) (List.mem_cons_of_mem _ (List.mem_filter.mpr ⟨(zls_mem hL).mpr ⟨w, h1, rfl⟩, ?_⟩))
      have e1 : (j == i) = false := by simp; omega
      have e3 : (j == i + 1) = false := by simp; omega
      simp only [e1, e3, Bool.not_false, Bool.true_and, Bool.not_eq_true', Bool.and_eq_false_iff, beq_eq_false_iff_ne, ne_eq]
      by_cases e2 : j + 1 = i
      · right
        rw [ztv_cat]
        exact h2 e2
      · exact Or.inl e2
theorem zLV.trim {nL : Nat} {ρ : Nat → Nat → Nat} {L : zLs} {ls : Array Slot} {ks : List Bool} (hk : ks = [] ∨ ks.length = nL) (h : zLV nL ρ L ls) : zLV nL ρ (ztr ks L) ls := by
  cases ks with
  | nil => exact h
  | cons b ks =>
    have hk : (b :: ks).length = nL := by
      rcases hk with hk | hk
      · cases hk
      · exact hk
    obtain ⟨h1, h2, h3, h4⟩ := h
    refine ⟨h1, h2, ?_, fun i v hi => h4 i v ?_⟩
    · show (List.zipWith _ (b :: ks) L).length = nL
      rw [List.length_zipWith, hk, h3, Nat.min_self]
    · have hi : zget (List.zipWith (fun b v => bif b then v else none) (b :: ks) L) i = some v := hi
      unfold zget at hi ⊢
      rw [List.getElem?_zipWith] at hi
      cases hx : (b :: ks)[i]? with
      | none => simp [hx] at hi
      | some c =>
        cases hy : L[i]? with
        | none => simp [hx, hy] at hi
        | some y =>
          rw [hx, hy] at hi
          cases c with
          | true => exact hi
          | false => simp at hi
/-- how long an instruction is -/
def zlen : Instr → Nat
  | .bipush _ => 2
  | .sipush _ => 3
  | .iload _ => 2
  | .fload _ => 2
  | .dload _ => 2
  | .aload _ => 2
  | .istore _ => 2
  | .fstore _ => 2
  | .dstore _ => 2
  | .astore _ => 2
  | .ldc _ => 2
  | .ldc_w _ => 3
  | .ldc2_w _ => 3
  | .iinc _ _ => 3
  | .goto _ => 3
  | .ifCond _ _ => 3
  | .if_icmp _ _ => 3
  | .if_acmp _ _ => 3
  | .ifnull _ => 3
  | .ifnonnull _ => 3
  | .getfield _ => 3
  | .putfield _ => 3
  | .getstatic _ => 3
  | .new _ => 3
  | .anewarray _ => 3
  | .newarray _ => 2
  | .checkcast _ => 3
  | .invokevirtual _ => 3
  | .invokespecial _ => 3
  | .invokestatic _ => 3
  | .invokeinterface _ _ => 5
  | _ => 1
/-- the locals that an instruction writes are there -/
def zsL9 (o : Instr) (nL : Nat) : Bool := match o with
  | .istore i => decide (i < nL)
  | .istore_n i => decide (i.val < nL)
  | .fstore i => decide (i < nL)
  | .dstore i => decide (i + 1 < nL)
  | .dstore_n i => decide (i.val + 1 < nL)
  | .astore i => decide (i < nL)
  | .astore_n i => decide (i.val < nL)
  | .iinc i _ => decide (i < nL)
  | _ => true
section ZL
variable {p : Program} {l : Launch} {e : Env} {R : Room} {s : State} {m : MethodId} {args : Array Value} {below : List Frame} {meth : Method} {c : Code} {H : Heap} {locs : List Loc} {cells slots : Nat} {Q : State → Prop}
variable {cc : ByteArray} {b nL : Nat} {ls : Array Slot} {ρ : Nat → Nat → Nat}
abbrev zM (ρ : Nat → Nat → Nat) (st : List zV) : List Value := st.map (ztv ρ)
theorem zs_loc (hx : p.tables.exec = Jvm.exec) (hb : c.code = cc) {own : String} (hown : s.vm.findClass own = some m.cls) {o : Instr} {a : List Nat} {pc pc' : Nat} {L L' : zLs} {st st' : List zV} {h h' : zH}
    (hs : zsLoc o a pc L st h = some (pc', L', st', h')) (hd : decode cc b = .ok (o, zlen o))
    (hc1 : ∀ i n, (o = .ldc i ∨ o = .ldc_w i) → a = [n] → (Jvm.Cond.constant own i (nI n)).before args s = true)
    (hc2 : ∀ i n, o = .ldc2_w i → a = [n] → (Jvm.Cond.constantDouble own i (UInt64.ofNat n)).before args s = true)
    (hn : zsL9 o nL = true) (hL : zLV nL ρ L ls)
    (kk : ∀ ls', zLV nL ρ L' ls' → W p l e R s m args below meth c H locs cells slots Q (F0 m (b + zlen o) ls' (zM ρ st'))) :
    pc' = pc + 1 ∧ h' = h ∧ W p l e R s m args below meth c H locs cells slots Q (F0 m b ls (zM ρ st)) := by
  cases o
  case iconst n =>
    simp only [zsLoc, Option.some.injEq, Prod.mk.injEq] at hs
    obtain ⟨rfl, rfl, rfl, rfl⟩ := hs
    exact ⟨rfl, rfl, lv_iconst hx hb hd rfl (kk _ hL)⟩
  case bipush n =>
    simp only [zsLoc, Option.some.injEq, Prod.mk.injEq] at hs
    obtain ⟨rfl, rfl, rfl, rfl⟩ := hs
    exact ⟨rfl, rfl, lv_bipush hx hb hd rfl (kk _ hL)⟩
  case sipush n =>
    simp only [zsLoc, Option.some.injEq, Prod.mk.injEq] at hs
    obtain ⟨rfl, rfl, rfl, rfl⟩ := hs
    exact ⟨rfl, rfl, lv_sipush hx hb hd rfl (kk _ hL)⟩
  case lconst n =>
    simp only [zsLoc, Option.some.injEq, Prod.mk.injEq] at hs
    obtain ⟨rfl, rfl, rfl, rfl⟩ := hs
    exact ⟨rfl, rfl, lv_lconst hx hb hd rfl (kk _ hL)⟩
  case aconst_null =>
    simp only [zsLoc, Option.some.injEq, Prod.mk.injEq] at hs
    obtain ⟨rfl, rfl, rfl, rfl⟩ := hs
    exact ⟨rfl, rfl, lv_null hx hb hd (kk _ hL)⟩
  case fconst n =>
    match n, hs, hd, kk with
    | 0, hs, hd, kk =>
      simp only [zsLoc, Option.some.injEq, Prod.mk.injEq] at hs
      obtain ⟨rfl, rfl, rfl, rfl⟩ := hs
      exact ⟨rfl, rfl, lv_fconst0 hx hb hd (kk _ hL)⟩
    | 1, hs, hd, kk => cases hs
    | 2, hs, hd, kk => cases hs
  case dconst n =>
    match n, hs, hd, kk with
    | 0, hs, hd, kk =>
      simp only [zsLoc, Option.some.injEq, Prod.mk.injEq] at hs
      obtain ⟨rfl, rfl, rfl, rfl⟩ := hs
      exact ⟨rfl, rfl, lv_dconst0 hx hb hd (kk _ hL)⟩
    | 1, hs, hd, kk =>
      simp only [zsLoc, Option.some.injEq, Prod.mk.injEq] at hs
      obtain ⟨rfl, rfl, rfl, rfl⟩ := hs
      exact ⟨rfl, rfl, lv_dconst1 hx hb hd (kk _ hL)⟩
  case ldc n =>
    match a, hs with
    | [x], hs =>
      simp only [zsLoc, Option.some.injEq, Prod.mk.injEq] at hs
      obtain ⟨rfl, rfl, rfl, rfl⟩ := hs
      exact ⟨rfl, rfl, lv_ldc hx hb hown (hc1 _ _ (Or.inl rfl) rfl) hd (kk _ hL)⟩
    | [], hs => cases hs
    | _ :: _ :: _, hs => cases hs
  case ldc_w n =>
    match a, hs with
    | [x], hs =>
      simp only [zsLoc, Option.some.injEq, Prod.mk.injEq] at hs
      obtain ⟨rfl, rfl, rfl, rfl⟩ := hs
      exact ⟨rfl, rfl, lv_ldcw hx hb hown (hc1 _ _ (Or.inr rfl) rfl) hd (kk _ hL)⟩
    | [], hs => cases hs
    | _ :: _ :: _, hs => cases hs
  case ldc2_w n =>
    match a, hs with
    | [x], hs =>
      simp only [zsLoc, Option.some.injEq, Prod.mk.injEq] at hs
      obtain ⟨rfl, rfl, rfl, rfl⟩ := hs
      exact ⟨rfl, rfl, lv_ldc2d hx hb hown (hc2 _ _ rfl rfl) hd (kk _ hL)⟩
    | [], hs => cases hs
    | _ :: _ :: _, hs => cases hs
  case iload i =>
    obtain ⟨v, hv, hs⟩ := Option.bind_eq_some_iff.mp (show (zget L _).bind _ = _ from hs)
    match v, hv, hs with
    | .inl (.int x), hv, hs =>
      simp only [Option.some.injEq, Prod.mk.injEq] at hs
      obtain ⟨rfl, rfl, rfl, rfl⟩ := hs
      exact ⟨rfl, rfl, lv_iload hx hb hd (hL.2.2.2 _ _ hv) (kk _ hL)⟩
  case iload_n i =>
    obtain ⟨v, hv, hs⟩ := Option.bind_eq_some_iff.mp (show (zget L _).bind _ = _ from hs)
    match v, hv, hs with
    | .inl (.int x), hv, hs =>
      simp only [Option.some.injEq, Prod.mk.injEq] at hs
      obtain ⟨rfl, rfl, rfl, rfl⟩ := hs
      exact ⟨rfl, rfl, lv_iload_n hx hb hd rfl (hL.2.2.2 _ _ hv) (kk _ hL)⟩
  case fload i =>
    obtain ⟨v, hv, hs⟩ := Option.bind_eq_some_iff.mp (show (zget L _).bind _ = _ from hs)
    match v, hv, hs with
    | .inl (.float x), hv, hs =>
      simp only [Option.some.injEq, Prod.mk.injEq] at hs
      obtain ⟨rfl, rfl, rfl, rfl⟩ := hs
      exact ⟨rfl, rfl, lv_fload hx hb hd (hL.2.2.2 _ _ hv) (kk _ hL)⟩
  case dload i =>
    obtain ⟨v, hv, hs⟩ := Option.bind_eq_some_iff.mp (show (zget L _).bind _ = _ from hs)
    match v, hv, hs with
    | .inl (.double x), hv, hs =>
      simp only [Option.some.injEq, Prod.mk.injEq] at hs
      obtain ⟨rfl, rfl, rfl, rfl⟩ := hs
      exact ⟨rfl, rfl, lv_dload hx hb hd (hL.2.2.2 _ _ hv) (kk _ hL)⟩
  case dload_n i =>
    obtain ⟨v, hv, hs⟩ := Option.bind_eq_some_iff.mp (show (zget L _).bind _ = _ from hs)
    match v, hv, hs with
    | .inl (.double x), hv, hs =>
      simp only [Option.some.injEq, Prod.mk.injEq] at hs
      obtain ⟨rfl, rfl, rfl, rfl⟩ := hs
      exact ⟨rfl, rfl, lv_dload_n hx hb hd rfl (hL.2.2.2 _ _ hv) (kk _ hL)⟩
  case aload i =>
    obtain ⟨v, hv, hs⟩ := Option.bind_eq_some_iff.mp (show (zget L _).bind _ = _ from hs)
    match v, hv, hs with
    | .inr q, hv, hs =>
      simp only [Option.some.injEq, Prod.mk.injEq] at hs
      obtain ⟨rfl, rfl, rfl, rfl⟩ := hs
      exact ⟨rfl, rfl, lv_aload hx hb hd (hL.2.2.2 _ _ hv) (kk _ hL)⟩
    | .inl .null, hv, hs =>
      simp only [Option.some.injEq, Prod.mk.injEq] at hs
      obtain ⟨rfl, rfl, rfl, rfl⟩ := hs
      exact ⟨rfl, rfl, lv_aloadN hx hb hd (hL.2.2.2 _ _ hv) (kk _ hL)⟩
  case aload_n i =>
    obtain ⟨v, hv, hs⟩ := Option.bind_eq_some_iff.mp (show (zget L _).bind _ = _ from hs)
    match v, hv, hs with
    | .inr q, hv, hs =>
      simp only [Option.some.injEq, Prod.mk.injEq] at hs
      obtain ⟨rfl, rfl, rfl, rfl⟩ := hs
      exact ⟨rfl, rfl, lv_aload_n hx hb hd rfl (hL.2.2.2 _ _ hv) (kk _ hL)⟩
    | .inl .null, hv, hs =>
      simp only [Option.some.injEq, Prod.mk.injEq] at hs
      obtain ⟨rfl, rfl, rfl, rfl⟩ := hs
      exact ⟨rfl, rfl, lv_aload_nN hx hb hd rfl (hL.2.2.2 _ _ hv) (kk _ hL)⟩
  case istore i =>
    match st, hs with
    | .inl (.int x) :: st2, hs =>
      simp only [zsLoc, Option.some.injEq, Prod.mk.injEq] at hs
      obtain ⟨rfl, rfl, rfl, rfl⟩ := hs
      exact ⟨rfl, rfl, lv_istore hx hb hd hL.has (by simpa [zsL9] using hn) rfl fun ls' h' => kk ls' (zLV.set1 hL.2.2.1 rfl h')⟩
  case istore_n i =>
    match st, hs with
    | .inl (.int x) :: st2, hs =>
      simp only [zsLoc, Option.some.injEq, Prod.mk.injEq] at hs
      obtain ⟨rfl, rfl, rfl, rfl⟩ := hs
      exact ⟨rfl, rfl, lv_istore_n hx hb hd rfl hL.has (by simpa [zsL9] using hn) rfl fun ls' h' => kk ls' (zLV.set1 hL.2.2.1 rfl h')⟩
  case fstore i =>
    match st, hs with
    | .inl (.float x) :: st2, hs =>
      simp only [zsLoc, Option.some.injEq, Prod.mk.injEq] at hs
      obtain ⟨rfl, rfl, rfl, rfl⟩ := hs
      exact ⟨rfl, rfl, lv_fstore hx hb hd hL.has (by simpa [zsL9] using hn) rfl fun ls' h' => kk ls' (zLV.set1 hL.2.2.1 rfl h')⟩
  case dstore i =>
    match st, hs with
    | .inl (.double x) :: st2, hs =>
      simp only [zsLoc, Option.some.injEq, Prod.mk.injEq] at hs
      obtain ⟨rfl, rfl, rfl, rfl⟩ := hs
      exact ⟨rfl, rfl, lv_dstore hx hb hd hL.has (by simpa [zsL9] using hn) rfl fun ls' h' => kk ls' (zLV.set2 hL.2.2.1 rfl h')⟩
  case dstore_n i =>
    match st, hs with
    | .inl (.double x) :: st2, hs =>
      simp only [zsLoc, Option.some.injEq, Prod.mk.injEq] at hs
      obtain ⟨rfl, rfl, rfl, rfl⟩ := hs
      exact ⟨rfl, rfl, lv_dstore_n hx hb hd rfl hL.has (by simpa [zsL9] using hn) rfl fun ls' h' => kk ls' (zLV.set2 hL.2.2.1 rfl h')⟩
  case astore i =>
    match st, hs with
    | .inr q :: st2, hs =>
      simp only [zsLoc, Option.some.injEq, Prod.mk.injEq] at hs
      obtain ⟨rfl, rfl, rfl, rfl⟩ := hs
      exact ⟨rfl, rfl, lv_astore hx hb hd hL.has (by simpa [zsL9] using hn) rfl fun ls' h' => kk ls' (zLV.set1 hL.2.2.1 rfl h')⟩
    | .inl .null :: st2, hs =>
      simp only [zsLoc, Option.some.injEq, Prod.mk.injEq] at hs
      obtain ⟨rfl, rfl, rfl, rfl⟩ := hs
      exact ⟨rfl, rfl, lv_astoreN hx hb hd hL.has (by simpa [zsL9] using hn) rfl fun ls' h' => kk ls' (zLV.set1 hL.2.2.1 rfl h')⟩
  case astore_n i =>
    match st, hs with
    | .inr q :: st2, hs =>
      simp only [zsLoc, Option.some.injEq, Prod.mk.injEq] at hs
      obtain ⟨rfl, rfl, rfl, rfl⟩ := hs
      exact ⟨rfl, rfl, lv_astore_n hx hb hd rfl hL.has (by simpa [zsL9] using hn) rfl fun ls' h' => kk ls' (zLV.set1 hL.2.2.1 rfl h')⟩
    | .inl .null :: st2, hs =>
      simp only [zsLoc, Option.some.injEq, Prod.mk.injEq] at hs
      obtain ⟨rfl, rfl, rfl, rfl⟩ := hs
      exact ⟨rfl, rfl, lv_astore_nN hx hb hd rfl hL.has (by simpa [zsL9] using hn) rfl fun ls' h' => kk ls' (zLV.set1 hL.2.2.1 rfl h')⟩
  case iinc i n =>
    obtain ⟨v, hv, hs⟩ := Option.bind_eq_some_iff.mp (show (zget L _).bind _ = _ from hs)
    match v, hv, hs with
    | .inl (.int x), hv, hs =>
      simp only [Option.some.injEq, Prod.mk.injEq] at hs
      obtain ⟨rfl, rfl, rfl, rfl⟩ := hs
      obtain ⟨k, hk⟩ := List.getElem?_of_mem ((zls_mem (ρ := ρ) hL.2.2.1).mpr ⟨_, hv, rfl⟩)
      exact ⟨rfl, rfl, lv_iinc hx hb hd hL.has hk rfl (by simpa [zsL9] using hn) rfl fun ls' h' => kk ls' (zLV.set1 hL.2.2.1 rfl h')⟩
  case dup =>
    match st, hs with
    | v :: st2, hs =>
      cases hc : zcat v == 1 with
      | false => simp [zsLoc, hc] at hs
      | true =>
        simp only [zsLoc, hc, cond_true, Option.some.injEq, Prod.mk.injEq] at hs
        obtain ⟨rfl, rfl, rfl, rfl⟩ := hs
        exact ⟨rfl, rfl, lv_dup hx hb hd (by rw [ztv_cat]; exact eq_of_beq hc) (kk _ hL)⟩
  case pop =>
    match st, hs with
    | v :: st2, hs =>
      cases hc : zcat v == 1 with
      | false => simp [zsLoc, hc] at hs
      | true =>
        simp only [zsLoc, hc, cond_true, Option.some.injEq, Prod.mk.injEq] at hs
        obtain ⟨rfl, rfl, rfl, rfl⟩ := hs
        exact ⟨rfl, rfl, lv_pop hx hb hd (by rw [ztv_cat]; exact eq_of_beq hc) (kk _ hL)⟩
  case dup2 =>
    match st, hs with
    | v :: w :: st2, hs =>
      cases hc : zcat v == 1 && zcat w == 1 with
      | false => simp [zsLoc, hc] at hs
      | true =>
        simp only [zsLoc, hc, cond_true, Option.some.injEq, Prod.mk.injEq] at hs
        obtain ⟨rfl, rfl, rfl, rfl⟩ := hs
        rw [Bool.and_eq_true] at hc
        exact ⟨rfl, rfl, lv_dup2_11 hx hb hd (by rw [ztv_cat]; exact eq_of_beq hc.1) (by rw [ztv_cat]; exact eq_of_beq hc.2) (kk _ hL)⟩
    | [_], hs => cases hs
  all_goals cases hs
theorem zs_num (hx : p.tables.exec = Jvm.exec) (hb : c.code = cc) {o : Instr} {pc pc' : Nat} {L L' : zLs} {st st' : List zV} {h h' : zH}
    (hs : zsNum o pc L st h = some (pc', L', st', h')) (hd : decode cc b = .ok (o, zlen o))
    (kk : W p l e R s m args below meth c H locs cells slots Q (F0 m (b + zlen o) ls (zM ρ st'))) :
    pc' = pc + 1 ∧ L' = L ∧ h' = h ∧ W p l e R s m args below meth c H locs cells slots Q (F0 m b ls (zM ρ st)) := by
  unfold zsNum at hs
  split at hs
  · simp only [Option.some.injEq, Prod.mk.injEq] at hs
    obtain ⟨rfl, rfl, rfl, rfl⟩ := hs
    exact ⟨rfl, rfl, rfl, lv_iadd hx hb hd kk⟩
  · simp only [Option.some.injEq, Prod.mk.injEq] at hs
    obtain ⟨rfl, rfl, rfl, rfl⟩ := hs
    exact ⟨rfl, rfl, rfl, lv_isub hx hb hd kk⟩
  · simp only [Option.some.injEq, Prod.mk.injEq] at hs
    obtain ⟨rfl, rfl, rfl, rfl⟩ := hs
    exact ⟨rfl, rfl, rfl, lv_imul hx hb hd kk⟩
  · simp only [Option.some.injEq, Prod.mk.injEq] at hs
    obtain ⟨rfl, rfl, rfl, rfl⟩ := hs
    exact ⟨rfl, rfl, rfl, lv_iand hx hb hd kk⟩
  · simp only [Option.some.injEq, Prod.mk.injEq] at hs
    obtain ⟨rfl, rfl, rfl, rfl⟩ := hs
    exact ⟨rfl, rfl, rfl, lv_ior hx hb hd kk⟩
  · simp only [Option.some.injEq, Prod.mk.injEq] at hs
    obtain ⟨rfl, rfl, rfl, rfl⟩ := hs
    exact ⟨rfl, rfl, rfl, lv_ixor hx hb hd kk⟩
  · split at hs
    · cases hs
    · rename_i hne
      simp only [Option.some.injEq, Prod.mk.injEq] at hs
      obtain ⟨rfl, rfl, rfl, rfl⟩ := hs
      exact ⟨rfl, rfl, rfl, lv_idiv hx hb hd hne kk⟩
  · split at hs
    · cases hs
    · rename_i hne
      simp only [Option.some.injEq, Prod.mk.injEq] at hs
      obtain ⟨rfl, rfl, rfl, rfl⟩ := hs
      exact ⟨rfl, rfl, rfl, lv_irem hx hb hd hne kk⟩
  · simp only [Option.some.injEq, Prod.mk.injEq] at hs
    obtain ⟨rfl, rfl, rfl, rfl⟩ := hs
    exact ⟨rfl, rfl, rfl, lv_ishl hx hb hd kk⟩
  · simp only [Option.some.injEq, Prod.mk.injEq] at hs
    obtain ⟨rfl, rfl, rfl, rfl⟩ := hs
    exact ⟨rfl, rfl, rfl, lv_ishr hx hb hd kk⟩
  · simp only [Option.some.injEq, Prod.mk.injEq] at hs
    obtain ⟨rfl, rfl, rfl, rfl⟩ := hs
    exact ⟨rfl, rfl, rfl, lv_iushr hx hb hd rfl kk⟩
  · simp only [Option.some.injEq, Prod.mk.injEq] at hs
    obtain ⟨rfl, rfl, rfl, rfl⟩ := hs
    exact ⟨rfl, rfl, rfl, lv_i2l hx hb hd rfl kk⟩
  · simp only [Option.some.injEq, Prod.mk.injEq] at hs
    obtain ⟨rfl, rfl, rfl, rfl⟩ := hs
    exact ⟨rfl, rfl, rfl, lv_i2f hx hb hd kk⟩
  · split at hs
    · rename_i hne
      simp only [Option.some.injEq, Prod.mk.injEq] at hs
      obtain ⟨rfl, rfl, rfl, rfl⟩ := hs
      exact ⟨rfl, rfl, rfl, lv_f2d hx hb hd hne kk⟩
    · cases hs
  · split at hs
    · rename_i hne
      simp only [Option.some.injEq, Prod.mk.injEq] at hs
      obtain ⟨rfl, rfl, rfl, rfl⟩ := hs
      exact ⟨rfl, rfl, rfl, lv_dmul hx hb hd hne kk⟩
    · cases hs
  · split at hs
    · rename_i hne
      simp only [Option.some.injEq, Prod.mk.injEq] at hs
      obtain ⟨rfl, rfl, rfl, rfl⟩ := hs
      exact ⟨rfl, rfl, rfl, lv_fdiv hx hb hd hne kk⟩
    · cases hs
  · cases hs
theorem zs_cmp (hx : p.tables.exec = Jvm.exec) (hb : c.code = cc) {o : Instr} {pc pc' : Nat} {L L' : zLs} {st st' : List zV} {h h' : zH}
    (hs : zsCmp o pc L st h = some (pc', L', st', h')) (hd : decode cc b = .ok (o, zlen o))
    (kk : W p l e R s m args below meth c H locs cells slots Q (F0 m (b + zlen o) ls (zM ρ st'))) :
    pc' = pc + 1 ∧ L' = L ∧ h' = h ∧ W p l e R s m args below meth c H locs cells slots Q (F0 m b ls (zM ρ st)) := by
  unfold zsCmp at hs
  split at hs
  · simp only [Option.some.injEq, Prod.mk.injEq] at hs
    obtain ⟨rfl, rfl, rfl, rfl⟩ := hs
    exact ⟨rfl, rfl, rfl, W.lcmp hx hb hd kk⟩
  · simp only [Option.some.injEq, Prod.mk.injEq] at hs
    obtain ⟨rfl, rfl, rfl, rfl⟩ := hs
    exact ⟨rfl, rfl, rfl, lv_dcmp hx hb hd kk⟩
  · simp only [Option.some.injEq, Prod.mk.injEq] at hs
    obtain ⟨rfl, rfl, rfl, rfl⟩ := hs
    exact ⟨rfl, rfl, rfl, lv_fcmp hx hb hd kk⟩
  · cases hs
/-- where a branch goes, by bytes -/
def zoff : Instr → Option Int
  | .goto o => some o
  | .ifCond _ o => some o
  | .if_icmp _ o => some o
  | .if_acmp _ o => some o
  | .ifnull o => some o
  | .ifnonnull o => some o
  | _ => none
theorem zref_rf {ρ : Nat → Nat → Nat} {v : zV} {x : Option (Nat × Nat)} (h : zref v = some x) : ztv ρ v = va_rf (x.map fun q => ρ q.1 q.2) := by
  match v, h with
  | .inr q, h => cases h; rfl
  | .inl .null, h => cases h; rfl
theorem zs_if (hx : p.tables.exec = Jvm.exec) (hb : c.code = cc) {o : Instr} {t pc pc' tb : Nat} {L L' : zLs} {st st' : List zV} {h h' : zH}
    (hs : zsIf o t pc L st h = some (pc', L', st', h')) (hd : decode cc b = .ok (o, zlen o)) (ht : ∀ off, zoff o = some off → (b : Int) + off = (tb : Int))
    (hinj : ∀ q r, Sum.inr q ∈ st → Sum.inr r ∈ st → ρ q.1 q.2 = ρ r.1 r.2 → q = r)
    (kt : pc' = t → W p l e R s m args below meth c H locs cells slots Q (F0 m tb ls (zM ρ st')))
    (kf : pc' = pc + 1 → W p l e R s m args below meth c H locs cells slots Q (F0 m (b + 3) ls (zM ρ st'))) :
    L' = L ∧ h' = h ∧ W p l e R s m args below meth c H locs cells slots Q (F0 m b ls (zM ρ st)) := by
  unfold zsIf at hs
  split at hs
  · simp only [Option.some.injEq, Prod.mk.injEq] at hs
    obtain ⟨rfl, rfl, rfl, rfl⟩ := hs
    exact ⟨rfl, rfl, lv_goto hx hb hd (ht _ rfl) (kt rfl)⟩
  · simp only [Option.some.injEq, Prod.mk.injEq] at hs
    obtain ⟨rfl, rfl, rfl, rfl⟩ := hs
    exact ⟨rfl, rfl, lv_if_eq hx hb hd (ht _ rfl) (fun q => kt (if_pos q)) (fun q => kf (if_neg q))⟩
  · simp only [Option.some.injEq, Prod.mk.injEq] at hs
    obtain ⟨rfl, rfl, rfl, rfl⟩ := hs
    exact ⟨rfl, rfl, lv_if_ne hx hb hd (ht _ rfl) (fun q => kt (if_neg q)) (fun q => kf (if_pos q))⟩
  · simp only [Option.some.injEq, Prod.mk.injEq] at hs
    obtain ⟨rfl, rfl, rfl, rfl⟩ := hs
    exact ⟨rfl, rfl, lv_if_lt hx hb hd (ht _ rfl) (fun q => kt (if_pos q)) (fun q => kf (if_neg q))⟩
  · simp only [Option.some.injEq, Prod.mk.injEq] at hs
    obtain ⟨rfl, rfl, rfl, rfl⟩ := hs
    exact ⟨rfl, rfl, lv_if_ge hx hb hd (ht _ rfl) (fun q => kt (if_pos q)) (fun q => kf (if_neg q))⟩
  · simp only [Option.some.injEq, Prod.mk.injEq] at hs
    obtain ⟨rfl, rfl, rfl, rfl⟩ := hs
    exact ⟨rfl, rfl, lv_if_gt hx hb hd (ht _ rfl) (fun q => kt (if_pos q)) (fun q => kf (if_neg q))⟩
  · simp only [Option.some.injEq, Prod.mk.injEq] at hs
    obtain ⟨rfl, rfl, rfl, rfl⟩ := hs
    exact ⟨rfl, rfl, lv_if_le hx hb hd (ht _ rfl) (fun q => kt (if_pos q)) (fun q => kf (if_neg q))⟩
  · simp only [Option.some.injEq, Prod.mk.injEq] at hs
    obtain ⟨rfl, rfl, rfl, rfl⟩ := hs
    exact ⟨rfl, rfl, lv_icmp_eq hx hb hd (ht _ rfl) (fun q => kt (if_pos q)) (fun q => kf (if_neg q))⟩
  · simp only [Option.some.injEq, Prod.mk.injEq] at hs
    obtain ⟨rfl, rfl, rfl, rfl⟩ := hs
    exact ⟨rfl, rfl, lv_icmp_ne hx hb hd (ht _ rfl) (fun q => kt (if_neg q)) (fun q => kf (if_pos q))⟩
  · simp only [Option.some.injEq, Prod.mk.injEq] at hs
    obtain ⟨rfl, rfl, rfl, rfl⟩ := hs
    exact ⟨rfl, rfl, lv_icmp_lt hx hb hd (ht _ rfl) (fun q => kt (if_pos q)) (fun q => kf (if_neg q))⟩
  · simp only [Option.some.injEq, Prod.mk.injEq] at hs
    obtain ⟨rfl, rfl, rfl, rfl⟩ := hs
    exact ⟨rfl, rfl, lv_icmp_ge hx hb hd (ht _ rfl) (fun q => kt (if_pos q)) (fun q => kf (if_neg q))⟩
  · simp only [Option.some.injEq, Prod.mk.injEq] at hs
    obtain ⟨rfl, rfl, rfl, rfl⟩ := hs
    exact ⟨rfl, rfl, lv_icmp_gt hx hb hd (ht _ rfl) (fun q => kt (if_pos q)) (fun q => kf (if_neg q))⟩
  · simp only [Option.some.injEq, Prod.mk.injEq] at hs
    obtain ⟨rfl, rfl, rfl, rfl⟩ := hs
    exact ⟨rfl, rfl, lv_icmp_le hx hb hd (ht _ rfl) (fun q => kt (if_pos q)) (fun q => kf (if_neg q))⟩
  · simp only [Option.some.injEq, Prod.mk.injEq] at hs
    obtain ⟨rfl, rfl, rfl, rfl⟩ := hs
    exact ⟨rfl, rfl, lv_ifnullN hx hb hd (ht _ rfl) (kt rfl)⟩
  · simp only [Option.some.injEq, Prod.mk.injEq] at hs
    obtain ⟨rfl, rfl, rfl, rfl⟩ := hs
    exact ⟨rfl, rfl, lv_ifnull hx hb hd (kf rfl)⟩
  · simp only [Option.some.injEq, Prod.mk.injEq] at hs
    obtain ⟨rfl, rfl, rfl, rfl⟩ := hs
    exact ⟨rfl, rfl, lv_ifnonnullN hx hb hd (kf rfl)⟩
  · simp only [Option.some.injEq, Prod.mk.injEq] at hs
    obtain ⟨rfl, rfl, rfl, rfl⟩ := hs
    exact ⟨rfl, rfl, lv_ifnonnull hx hb hd (ht _ rfl) (kt rfl)⟩
  · rename_i v w st2
    obtain ⟨x, hx1, hs⟩ := Option.bind_eq_some_iff.mp hs
    obtain ⟨y, hy1, hs⟩ := Option.bind_eq_some_iff.mp hs
    simp only [Option.some.injEq, Prod.mk.injEq] at hs
    obtain ⟨rfl, rfl, rfl, rfl⟩ := hs
    have eqv : (x.map fun q => ρ q.1 q.2) = (y.map fun q => ρ q.1 q.2) → x = y := by
      intro q
      match v, w, hx1, hy1 with
      | .inr q1, .inr q2, hx1, hy1 =>
        cases hx1; cases hy1
        simp only [Option.map_some, Option.some.injEq] at q
        rw [hinj q2 q1 (by simp) (by simp) q]
      | .inr q1, .inl .null, hx1, hy1 => cases hx1; cases hy1; simp at q
      | .inl .null, .inr q1, hx1, hy1 => cases hx1; cases hy1; simp at q
      | .inl .null, .inl .null, hx1, hy1 => cases hx1; cases hy1; rfl
    have e1 : zM ρ (v :: w :: st2) = va_rf (y.map fun q => ρ q.1 q.2) :: va_rf (x.map fun q => ρ q.1 q.2) :: zM ρ st2 := by
      show ztv ρ v :: ztv ρ w :: zM ρ st2 = _
      rw [zref_rf hx1, zref_rf hy1]
    rw [e1]
    exact ⟨rfl, rfl, lv_acmp_eq hx hb hd (ht _ rfl) (fun q => kt (if_pos (eqv q))) (fun q => kf (if_neg (fun z => q (by rw [z]))))⟩
  · rename_i v w st2
    obtain ⟨x, hx1, hs⟩ := Option.bind_eq_some_iff.mp hs
    obtain ⟨y, hy1, hs⟩ := Option.bind_eq_some_iff.mp hs
    simp only [Option.some.injEq, Prod.mk.injEq] at hs
    obtain ⟨rfl, rfl, rfl, rfl⟩ := hs
    have eqv : (x.map fun q => ρ q.1 q.2) = (y.map fun q => ρ q.1 q.2) → x = y := by
      intro q
      match v, w, hx1, hy1 with
      | .inr q1, .inr q2, hx1, hy1 =>
        cases hx1; cases hy1
        simp only [Option.map_some, Option.some.injEq] at q
        rw [hinj q2 q1 (by simp) (by simp) q]
      | .inr q1, .inl .null, hx1, hy1 => cases hx1; cases hy1; simp at q
      | .inl .null, .inr q1, hx1, hy1 => cases hx1; cases hy1; simp at q
      | .inl .null, .inl .null, hx1, hy1 => cases hx1; cases hy1; rfl
    have e1 : zM ρ (v :: w :: st2) = va_rf (y.map fun q => ρ q.1 q.2) :: va_rf (x.map fun q => ρ q.1 q.2) :: zM ρ st2 := by
      show ztv ρ v :: ztv ρ w :: zM ρ st2 = _
      rw [zref_rf hx1, zref_rf hy1]
    rw [e1]
    exact ⟨rfl, rfl, lv_acmp_ne hx hb hd (ht _ rfl) (fun q => kt (if_neg (fun z => q (by rw [z])))) (fun q => kf (if_pos (eqv q)))⟩
  · cases hs
theorem zs_sw (hx : p.tables.exec = Jvm.exec) (hb : c.code = cc) {o : Instr} {len d pc' : Nat} {ts : List Nat} {L L' : zLs} {st st' : List zV} {h h' : zH}
    (hs : zsSw o d ts L st h = some (pc', L', st', h')) (hd : decode cc b = .ok (o, len))
    (kd : ∀ dflt lo hi offs tb, o = .tableswitch dflt lo hi offs → (b : Int) + dflt = (tb : Nat) → pc' = d → W p l e R s m args below meth c H locs cells slots Q (F0 m tb ls (zM ρ st')))
    (hdt : ∀ dflt lo hi offs, o = .tableswitch dflt lo hi offs → ∃ tb : Nat, (b : Int) + dflt = tb)
    (kt : ∀ dflt lo hi offs (j : Nat) , o = .tableswitch dflt lo hi offs → ts[j]? = some pc' → ∃ off tb, offs[j]? = some off ∧ (b : Int) + off = (tb : Nat) ∧ W p l e R s m args below meth c H locs cells slots Q (F0 m tb ls (zM ρ st'))) :
    L' = L ∧ h' = h ∧ W p l e R s m args below meth c H locs cells slots Q (F0 m b ls (zM ρ st)) := by
  unfold zsSw at hs
  split at hs
  · rename_i dflt lo hi offs x st2
    split at hs
    · rename_i hq
      simp only [Option.some.injEq, Prod.mk.injEq] at hs
      obtain ⟨rfl, rfl, rfl, rfl⟩ := hs
      obtain ⟨tb, htb⟩ := hdt _ _ _ _ rfl
      exact ⟨rfl, rfl, lv_tableOut hx hb hd hq htb (kd _ _ _ _ tb rfl htb rfl)⟩
    · rename_i hq
      obtain ⟨t, ht, hs⟩ := Option.map_eq_some_iff.mp hs
      simp only [Prod.mk.injEq] at hs
      obtain ⟨rfl, rfl, rfl, rfl⟩ := hs
      obtain ⟨off, tb, h1, h2, h3⟩ := kt _ _ _ _ _ rfl ht
      exact ⟨rfl, rfl, lv_tableIn hx hb hd (fun z => hq (Or.inl z)) (fun z => hq (Or.inr z)) h1 h2 h3⟩
  · cases hs
end ZL
