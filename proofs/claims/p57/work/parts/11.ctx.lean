/-! The frame in which a method of the small machine stands; its end; its beginning. -/
def zEx (e : Nat) : String := match e with
  | 0 => "java/lang/IllegalArgumentException"
  | 1 => "java/lang/IllegalStateException"
  | _ => "java/lang/IndexOutOfBoundsException"
def zQ (G : zG) (ρ0 : Nat → Nat → Nat) (h0 : zH) (out : zO) (h' : zH) : Array Value → State → Outcome → State → Prop := fun _ st o t =>
  ∃ (ρ' : Nat → Nat → Nat) (v : Option zV), out = .inl v ∧ o = .returned (v.map (ztv ρ')) ∧ zag h0 ρ0 ρ' ∧ (∀ w, v = some w → zokv h' w) ∧ zRel G h' t.heap ρ' ∧ va_F G.2.2.2.1 st t
def zX (G : zG) (ρ0 : Nat → Nat → Nat) (h0 : zH) (out : zO) (h' : zH) : String → State → State → Prop := fun E st t =>
  ∃ (ρ' : Nat → Nat → Nat) (e : Nat), out = .inr e ∧ E = zEx e ∧ zag h0 ρ0 ρ' ∧ zRel G h' t.heap ρ' ∧ va_F G.2.2.2.1 st t
/-- of a method: its name, its code, what it answers, its table of handlers, how deep it goes, how many words it takes -/
abbrev zT : Type := (Nat → MethodName) × (Nat → ByteArray) × (Nat → Option FieldType) × (Nat → List (Nat × Nat × Nat × Nat)) × (Nat → Nat) × (Nat → Nat)
def zcw (P : zP) (M : zT) (mi : Nat) : Cond := match M.2.2.2.1 mi with
  | [] => Cond.code (M.1 mi) (M.2.1 mi) (P.2.1 mi).1 (M.2.2.1 mi)
  | x :: l => Cond.codeWith (M.1 mi) (M.2.1 mi) (P.2.1 mi).1 (M.2.2.1 mi) (x :: l)
def zws (P : zP) (M : zT) (mi : Nat) : List Cond := zcw P M mi :: zTs
section ZCX
variable {p : Program} {l : Launch} {e : Env} {R : Room} {s : State} {m : MethodId} {args : Array Value} {below : List Frame} {meth : Method} {c : Code} {H : Heap} {locs : List Loc} {cells slots : Nat} {Q : State → Prop}
/-- all that is so of a frame of the method mi: X is what else the tables say -/
def zCx (P : zP) (M : zT) (G : zG) (X : State → Prop) (mi : Nat) (p : Program) (l : Launch) (R : Room) (s : State) (m : MethodId) (args : Array Value) (meth : Method) (c : Code) : Prop :=
  p.tables.exec = Jvm.exec ∧ c.code = M.2.1 mi ∧ c.maxLocals = (P.2.1 mi).1 ∧ s.vm.findClass (M.1 mi).cls = some m.cls ∧ (∀ w ∈ zTs, w.before args s = true) ∧ meth.sig.returnType = M.2.2.1 mi ∧ meth.locks = false ∧
  c.exceptionTable.toList = tableOf (M.2.2.2.1 mi) ∧ meth.name = (M.1 mi).name ∧ M.2.2.2.2.1 mi ≤ R.frames ∧ M.2.2.2.2.2 mi ≤ R.locals ∧ zEnv G s ∧ X s ∧ l.stackTraces = false
theorem zEnv.mv {G : zG} {U : State} (hE : zEnv G s) (hS : va_S G.2.2.2.1 s.heap H locs) (hU : U.heap = H) (hW : s.vm.Alike U.vm) : zEnv G U := by
  obtain ⟨a, b, c, d, e⟩ := hE
  refine ⟨va_K.moved hW a, ?_, by rw [hU]; exact Nat.lt_of_lt_of_le c hS.1, d, fun q hq => e q (Nat.le_trans hS.1 (by rw [← hU]; exact hq))⟩
  rw [hU]
  exact (b.kept (hS.2.1 _ c d)).moved hW
theorem zil_cons (a : zV) (as : List zV) : zil (a :: as) = bif zcat a == 2 then some a :: none :: zil as else some a :: zil as := rfl
theorem lv_args_mem {ρ : Nat → Nat → Nat} : ∀ (as : List zV) (k j : Nat) (v : zV), zget (zil as) j = some v → (k + j, ztv ρ v) ∈ lv_args k (zM ρ as)
  | [], k, j, v, h => by cases j <;> cases h
  | a :: as, k, j, v, h => by
    unfold zil at h
    show _ ∈ (k, ztv ρ a) :: lv_args (if (ztv ρ a).category = 2 then k + 2 else k + 1) (zM ρ as)
    rw [ztv_cat]
    cases hc : zcat a == 2 with
    | true =>
      rw [hc, cond_true] at h
      rw [if_pos (eq_of_beq hc)]
      match j, h with
      | 0, h =>
        cases h
        exact List.mem_cons_self
      | 1, h => cases h
      | j + 2, h =>
        have := lv_args_mem (ρ := ρ) as (k + 2) j v h
        rw [show k + (j + 2) = k + 2 + j by omega]
        exact List.mem_cons_of_mem _ this
    | false =>
      rw [hc, cond_false] at h
      rw [if_neg (fun z => by rw [z] at hc; cases hc)]
      match j, h with
      | 0, h =>
        cases h
        exact List.mem_cons_self
      | j + 1, h =>
        have := lv_args_mem (ρ := ρ) as (k + 1) j v h
        rw [show k + (j + 1) = k + 1 + j by omega]
        exact List.mem_cons_of_mem _ this
theorem lg_sl_len {ρ : Nat → Nat → Nat} : ∀ as : List zV, (lg_sl (zM ρ as)).length = (zil as).length
  | [] => rfl
  | a :: as => by
    have ih := lg_sl_len (ρ := ρ) as
    have e : lg_sl (zM ρ (a :: as)) = (if (ztv ρ a).category = 2 then [Slot.val (ztv ρ a), .second] else [.val (ztv ρ a)]) ++ lg_sl (zM ρ as) := rfl
    rw [e, List.length_append, ih, ztv_cat, zil_cons]
    cases hc : zcat a == 2 with
    | true =>
      rw [cond_true, if_pos (eq_of_beq hc)]
      simp only [List.length_cons, List.length_nil]
      omega
    | false =>
      rw [cond_false, if_neg (fun z => by rw [z] at hc; cases hc)]
      simp only [List.length_cons, List.length_nil]
      omega
theorem zget_pad {n j : Nat} {L : zLs} {v : zV} (h : zget (zpad n L) j = some v) : zget L j = some v := by
  unfold zget zpad at *
  by_cases hj : j < L.length
  · rw [List.getElem?_append_left hj] at h
    exact h
  · rw [List.getElem?_append_right (by omega)] at h
    by_cases h2 : j - L.length < n - L.length
    · rw [List.getElem?_replicate_of_lt h2] at h
      cases h
    · rw [List.getElem?_eq_none (by rw [List.length_replicate]; omega)] at h
      cases h
theorem zLV_entry {ρ : Nat → Nat → Nat} {as : List zV} {n : Nat} (h : (zil as).length ≤ n) : zLV n ρ (zpad n (zil as)) ((lg_sl (zM ρ as) ++ List.replicate (n - (lg_sl (zM ρ as)).length) Slot.unset).toArray) := by
  have h1 := lv_entry (zM ρ as) (n := n) (by rw [lg_sl_len]; exact h)
  refine ⟨h1.1, h1.2.1, ?_, fun i v hi => ?_⟩
  · unfold zpad
    rw [List.length_append, List.length_replicate]
    omega
  · have h2 := lv_args_mem (ρ := ρ) as 0 i v (zget_pad hi)
    rw [Nat.zero_add] at h2
    exact h1.2.2 _ h2
theorem zget_il {as : List zV} {i : Nat} {v : zV} (h : zget (zil as) i = some v) : v ∈ as := by
  induction as generalizing i with
  | nil => cases i <;> cases h
  | cons a as ih =>
    unfold zil at h
    cases hc : zcat a == 2 with
    | true =>
      rw [hc, cond_true] at h
      match i, h with
      | 0, h => cases h; exact List.mem_cons_self
      | 1, h => cases h
      | i + 2, h => exact List.mem_cons_of_mem _ (ih h)
    | false =>
      rw [hc, cond_false] at h
      match i, h with
      | 0, h => cases h; exact List.mem_cons_self
      | i + 1, h => exact List.mem_cons_of_mem _ (ih h)
theorem zget_tr {ks : List Bool} {L : zLs} {i : Nat} {v : zV} (h : zget (ztr ks L) i = some v) : zget L i = some v := by
  cases ks with
  | nil => exact h
  | cons b ks =>
    have hi : zget (List.zipWith (fun b v => bif b then v else none) (b :: ks) L) i = some v := h
    unfold zget at hi ⊢
    rw [List.getElem?_zipWith] at hi
    cases hx : (b :: ks)[i]? with
    | none => simp [hx] at hi
    | some c =>
      cases hy : L[i]? with
      | none => simp [hx, hy] at hi
      | some y =>
        rw [hx, hy] at hi
        cases c with
        | true => exact hi
        | false => simp at hi
/-- the returning instruction of a method, by the kind of its answer -/
def zrtO (k : Nat) (o : Instr) (rt : Option FieldType) : Prop := match k with
  | 0 => o = .return_ ∧ rt = none
  | 1 => o = .ireturn ∧ rt = some .int
  | 2 => o = .ireturn ∧ rt = some .boolean
  | 3 => o = .areturn ∧ ∃ t, rt = some t ∧ ((∃ n, t = .object n) ∨ ∃ n, t = .array n)
  | 4 => o = .dreturn ∧ rt = some .double
  | 5 => o = .freturn ∧ rt = some .float
  | _ => False
theorem zs_ret {G : zG} {ρ ρ0 : Nat → Nat → Nat} {h h0 : zH} {k b : Nat} {cc : ByteArray} {st : List zV} {v : Option zV} {o : Instr} {ls : Array Slot} {XC : String → State → State → Prop} (hx : p.tables.exec = Jvm.exec) (hb : c.code = cc) (hlocks : meth.locks = false)
    (hs : zret k st = some v) (hk : zrtO k o meth.sig.returnType) (hd : decode cc b = .ok (o, 1)) (hS : va_S G.2.2.2.1 s.heap H locs) (hR : zRel G h H ρ) (ha : zag h0 ρ0 ρ) (hv : ∀ v ∈ st, zokv h v) :
    W p l e R s m args below meth c H locs cells slots (vx_MQ below (zQ G ρ0 h0 (.inl v) h) XC args s cells slots G.2.2.2.1) (F0 m b ls (zM ρ st)) := by
  have q : ∀ (w : Option zV), (∀ x, w = some x → zokv h x) → v = w → ∀ t : State, t.heap = H → s.WarmedH t.vm → zQ G ρ0 h0 (.inl v) h args s (.returned (w.map (ztv ρ))) t := by
    intro w hw e t ht _
    exact ⟨ρ, w, by rw [e], rfl, ha, hw, by rw [ht]; exact hR, hS.F ht⟩
  refine vx_ret ?_
  unfold zret at hs
  split at hs
  · cases hs
    obtain ⟨rfl, hr⟩ := hk
    exact W.vret hx hb hr (q none (fun x hx => by cases hx) rfl) hS.2.2 hd
  · cases hs
    obtain ⟨rfl, hr⟩ := hk
    exact W.iret hx hb hr (q (some _) (fun x hx => by cases hx; exact hv _ List.mem_cons_self) rfl) hS.2.2 hd
  · split at hs
    · rename_i h01
      cases hs
      obtain ⟨rfl, hr⟩ := hk
      exact W.zret hx hb hr (by rcases h01 with rfl | rfl <;> rfl) (q (some _) (fun x hx => by cases hx; exact hv _ List.mem_cons_self) rfl) hS.2.2 hd
    · cases hs
  · cases hs
    obtain ⟨rfl, t, hr, ht⟩ := hk
    exact W.aret hx hb hr ht (Or.inr ⟨_, rfl⟩) (q (some _) (fun x hx => by cases hx; exact hv _ List.mem_cons_self) rfl) hS.2.2 hd
  · cases hs
    obtain ⟨rfl, t, hr, ht⟩ := hk
    exact W.aret hx hb hr ht (Or.inl rfl) (q (some _) (fun x hx => by cases hx; exact hv _ List.mem_cons_self) rfl) hS.2.2 hd
  · cases hs
    obtain ⟨rfl, hr⟩ := hk
    exact W.dret hx hb hr (q (some _) (fun x hx => by cases hx; exact hv _ List.mem_cons_self) rfl) hS.2.2 hd
  · cases hs
    obtain ⟨rfl, hr⟩ := hk
    exact W.fret hx hb hr (q (some _) (fun x hx => by cases hx; exact hv _ List.mem_cons_self) rfl) hS.2.2 hd
  · cases hs
end ZCX
