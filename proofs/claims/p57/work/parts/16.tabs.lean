/-! The tables' words that the program needs, by their places. -/
def zwd (i : Nat) (w : Cond) : Bool := match lw_tbl[i]? with
  | some v => decide (v = w) && goodWord v
  | none => false
theorem zwd_in {i : Nat} {w : Cond} (h : zwd i w = true) : w ∈ zTs := by
  unfold zwd at h
  split at h
  · rename_i v hv
    rw [Bool.and_eq_true] at h
    have e := of_decide_eq_true h.1
    subst e
    exact zTs_of (List.mem_of_getElem? hv) h.2
  · cases h
def zTFb (e : Nat × Nat × Nat × Nat × Nat) : Bool := match zcl[e.2.2.1]?, zcn[e.1]? with
  | some (C, T, N), some own => Nat.blt e.2.2.1 13 && Nat.blt e.2.2.2.1 N && zwd e.2.2.2.2 (Cond.fieldLink own e.2.1 C (T e.2.2.2.1).2.1 (T e.2.2.2.1).2.2.1)
  | _, _ => false
theorem zTF_b : zTF.all zTFb = true := by decide +kernel
def zTNb (e : Nat × Nat × Nat × Nat × Nat × Nat) : Bool := match zcl[e.2.2.1]?, zcn[e.1]? with
  | some (C, _, N), some own => Nat.blt e.2.2.1 13 && zwd e.2.2.2.1 (Cond.classLink own e.2.1 C) && zwd e.2.2.2.2.1 (Cond.instantiable C N) && zwd e.2.2.2.2.2 (Cond.initialized C)
  | _, _ => false
theorem zTN_b : zTN.all zTNb = true := by decide +kernel
def zTLb (e : Nat × Nat × Nat × Nat × Nat) : Bool := match zcn[e.1]? with
  | some own => zwd e.2.2.1 (Cond.classLink own e.2.1 RJx4a65c) && zwd e.2.2.2.1 (Cond.instantiable RJx4a65c 3) && zwd e.2.2.2.2 (Cond.initialized RJx4a65c)
  | _ => false
theorem zTL_b : zTL.all zTLb = true := by decide +kernel
def zTCb (e : Nat × Nat × Nat × Nat) : Bool := match zcl[e.2.2.1]?, zcn[e.1]? with
  | some (C, _, _), some own => zwd e.2.2.2 (Cond.classLink own e.2.1 C)
  | _, _ => false
theorem zTC_b : zTC.all zTCb = true := by decide +kernel
theorem zTA_b : zTA.all zTCb = true := by decide +kernel
def zTKb (e : Nat × Nat × Nat × Nat) : Bool := match zcn[e.1]? with
  | some own => zwd e.2.2.2 (Cond.constant own e.2.1 (nI e.2.2.1))
  | _ => false
theorem zTK_b : zTK.all zTKb = true := by decide +kernel
def zTDb (e : Nat × Nat × Nat × Nat) : Bool := match zcn[e.1]? with
  | some own => zwd e.2.2.2 (Cond.constantDouble own e.2.1 (UInt64.ofNat e.2.2.1))
  | _ => false
theorem zTD_b : zTD.all zTDb = true := by decide +kernel
