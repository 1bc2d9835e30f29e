/-! Calls. -/
def zXb (w : Cond) : Bool := match w with
  | .methodLinkNest _ _ _ _ => true
  | .castable _ _ => true
  | _ => false
def zXW : List Cond := lw_tbl.filter zXb
def zXN (s : State) : Prop := ∀ w ∈ zXW, va_Nw w s
theorem zXN_moved {s U : State} (hW : s.WarmedH U.vm) (h : zXN s) : zXN U := by
  intro w hw
  have h1 := h w hw
  have h2 := (List.mem_filter.mp hw).2
  unfold zXb at h2
  split at h2
  · exact va_Nw.warmM hW h1
  · exact va_Nw.warmC hW h1
  · cases h2
theorem zXN_calling {U : State} {g : JFrame} {mk : MethodId} {a : Array Value} (h : zXN U) : zXN (State.calling U g mk a) := fun w hw => by
  have h2 := (List.mem_filter.mp hw).2
  unfold zXb at h2
  split at h2
  · exact va_Nw.same rfl rfl (h _ hw)
  · exact va_Nw.same rfl rfl (h _ hw)
  · cases h2
def zxd (i : Nat) (w : Cond) : Bool := match lw_tbl[i]? with
  | some v => decide (v = w) && zXb v
  | none => false
theorem zxd_in {i : Nat} {w : Cond} (h : zxd i w = true) : w ∈ zXW := by
  unfold zxd at h
  split at h
  · rename_i v hv
    rw [Bool.and_eq_true] at h
    have e := of_decide_eq_true h.1
    subst e
    exact List.mem_filter.mpr ⟨List.mem_of_getElem? hv, h.2⟩
  · cases h
/-- nest mates' links: the class, the entry, the method, the word's place, the host -/
def zNL : List (Nat × Nat × Nat × Nat × String) := [(8, 37, 27, 107, RX11), (9, 17, 17, 113, RX11), (11, 58, 4, 189, RX11), (8, 41, 133, 686, RX11), (11, 159, 7, 549, RX11)]
noncomputable def zNLb (e : Nat × Nat × Nat × Nat × String) : Bool := match zcn[e.1]? with
  | some own => zxd e.2.2.2.1 (Cond.methodLinkNest own e.2.1 (zMt.1 e.2.2.1) e.2.2.2.2)
  | none => false
theorem zNL_b : zNL.all zNLb = true := by decide +kernel
noncomputable def zMmb (mj i4 : Nat) : Bool := zbyteAt mj 0 0 && plainName (zMt.1 mj).cls && decide ((zMt.1 mj).cls ≠ "java/lang/invoke/MethodHandle") && decide ((zMt.1 mj).cls ≠ "java/lang/invoke/VarHandle") && zwd i4 (Cond.initialized (zMt.1 mj).cls)
noncomputable def zpn (mj k na : Nat) : Bool := match parseMethodDescriptor (zMt.1 mj).desc with
  | some d => Nat.beq (d.parameters.length + k) na
  | none => false
/-- a call's: the class that asks, the entry, the method, the kind, how many arguments, the class, the words' places -/
noncomputable def zTMk (own : String) (idx mj kd na ci i1 i2 i3 : Nat) : Bool := match kd with
  | 0 => (zMt.2.2.2.1 mj).isEmpty && ((match zcl[ci]? with
    | some (C, _, _) => decide ((zMt.1 mj).cls = C)
    | none => false) && (zpn mj 1 na && (zwd i1 (Cond.methodLink own idx (zMt.1 mj)) && (zwd i2 (Cond.instanceMethod (zMt.1 mj)) && zwd i3 (Cond.selects (zMt.1 mj).cls (zMt.1 mj) (zMt.1 mj))))))
  | 1 => (zMt.2.2.2.1 mj).isEmpty && (zpn mj 0 na && (zwd i1 (Cond.methodLink own idx (zMt.1 mj)) && zwd i2 (Cond.static (zMt.1 mj))))
  | 2 => (zMt.2.2.2.1 mj).isEmpty && (!(Nat.beq ci 99) && (decide ((zMt.1 mj).name = "<init>") && ((zMt.2.2.1 mj).isNone && (zpn mj 1 na && (zwd i1 (Cond.methodLink own idx (zMt.1 mj)) && zwd i2 (Cond.instanceMethod (zMt.1 mj)))))))
  | 3 => (zMt.2.2.2.1 mj).isEmpty && (zpn mj 0 na && zwd i2 (Cond.static (zMt.1 mj)))
  | 4 => (zMt.2.2.2.1 mj).isEmpty && (!(Nat.beq ci 99) && (decide ((zMt.1 mj).name = "<init>") && ((zMt.2.2.1 mj).isNone && (zpn mj 1 na && zwd i2 (Cond.instanceMethod (zMt.1 mj))))))
  | 5 => !(zMt.2.2.2.1 mj).isEmpty && (zpn mj 0 na && (zwd i1 (Cond.methodLink own idx (zMt.1 mj)) && zwd i2 (Cond.static (zMt.1 mj))))
  | _ => false
noncomputable def zTMb (e : List Nat) : Bool := match e with
  | [ow, idx, mj, kd, na, ci, i1, i2, i3, i4, i5] => (match zcn[ow]? with
    | some own => zMmb mj i4 && ((zcwL.any fun q => Nat.beq q.1 mj && Nat.beq q.2 i5) && zTMk own idx mj kd na ci i1 i2 i3)
    | none => false)
  | _ => false
