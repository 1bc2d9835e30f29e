/-! A long method's bytes, read in a window. -/
def zsub (X Y : ByteArray) (b : Nat) : Prop := ∀ (j : Nat) (h : j < Y.size), ∃ h' : b + j < X.size, X[b + j] = Y[j]
def zLoc {α : Type} (X Y : ByteArray) (b : Nat) (r r' : Decoder α) : Prop := ∀ q v q', Reader.runAt r' Y q = .ok (v, q') → Reader.runAt r X (b + q) = .ok (v, b + q')
theorem zrun_pure {α : Type} (X : ByteArray) (p : Nat) (v : α) : Reader.runAt (pure v : Decoder α) X p = .ok (v, p) := rfl
theorem zrun_bind {α β : Type} (r : Decoder α) (f : α → Decoder β) (X : ByteArray) (p : Nat) : Reader.runAt (r >>= f) X p = (match Reader.runAt r X p with
  | .ok (a, p1) => Reader.runAt (f a) X p1
  | .error e => .error e) := by
  show (r X p).bind _ = _
  show _ = (match r X p with
  | .ok (a, p1) => Reader.runAt (f a) X p1
  | .error e => .error e)
  cases r X p with
  | error e => rfl
  | ok v => rfl
theorem zrun_throw {α : Type} (X : ByteArray) (p : Nat) (e : DecodeError) : Reader.runAt (throw e : Decoder α) X p = .error e := rfl
theorem zrun_u1 (X : ByteArray) (p : Nat) : Reader.runAt (Reader.u1 : Decoder Nat) X p = if h : p < X.size then .ok (X[p].toNat, p + 1) else .error (HasTruncated.truncated p) := by
  by_cases h : p < X.size
  · rw [dif_pos h]
    show (dite (p < X.size) _ _ : Decoder Nat) X p = _
    rw [dif_pos h]
    rfl
  · rw [dif_neg h]
    show (dite (p < X.size) _ _ : Decoder Nat) X p = _
    rw [dif_neg h]
    rfl
theorem zLoc.pure {α : Type} {X Y : ByteArray} {b : Nat} {v : α} : zLoc X Y b (Pure.pure v) (Pure.pure v) := by
  intro q v q' h
  rw [zrun_pure] at h ⊢
  cases h
  rfl
theorem zLoc.throw {α : Type} {X Y : ByteArray} {b : Nat} {r : Decoder α} {e : DecodeError} : zLoc X Y b r (MonadExcept.throw e) := by
  intro q v q' h
  cases h
theorem zLoc.bind {α β : Type} {X Y : ByteArray} {b : Nat} {r r' : Decoder α} {f f' : α → Decoder β} (h1 : zLoc X Y b r r') (h2 : ∀ a, zLoc X Y b (f a) (f' a)) : zLoc X Y b (r >>= f) (r' >>= f') := by
  intro q v q' h
  rw [zrun_bind] at h ⊢
  cases hr : Reader.runAt r' Y q with
  | error e =>
    rw [hr] at h
    cases h
  | ok x =>
    obtain ⟨a, q1⟩ := x
    rw [hr] at h
    rw [h1 _ _ _ hr]
    exact h2 a _ _ _ h
theorem zLoc.u1 {X Y : ByteArray} {b : Nat} (hs : zsub X Y b) : zLoc X Y b Reader.u1 Reader.u1 := by
  intro q v q' h
  rw [zrun_u1] at h
  rw [zrun_u1]
  by_cases hq : q < Y.size
  · rw [dif_pos hq] at h
    obtain ⟨h', e⟩ := hs q hq
    rw [dif_pos h', e]
    cases h
    rfl
  · rw [dif_neg hq] at h
    cases h
theorem zLoc.u2 {X Y : ByteArray} {b : Nat} (hs : zsub X Y b) : zLoc X Y b Reader.u2 Reader.u2 := zLoc.bind (zLoc.u1 hs) fun _ => zLoc.bind (zLoc.u1 hs) fun _ => zLoc.pure
theorem zrun_map {α β : Type} (r : Decoder α) (f : α → β) (X : ByteArray) (p : Nat) : Reader.runAt (f <$> r) X p = (match Reader.runAt r X p with
  | .ok (a, p1) => .ok (f a, p1)
  | .error e => .error e) := by
  show (Functor.map _ (r X p)) = (match r X p with
  | .ok (a, p1) => .ok (f a, p1)
  | .error e => .error e)
  cases r X p with
  | error e => rfl
  | ok v => rfl
theorem zLoc.map {α β : Type} {X Y : ByteArray} {b : Nat} {r r' : Decoder α} {f : α → β} (h1 : zLoc X Y b r r') : zLoc X Y b (f <$> r) (f <$> r') := by
  intro q v q' h
  rw [zrun_map] at h ⊢
  cases hr : Reader.runAt r' Y q with
  | error e =>
    rw [hr] at h
    cases h
  | ok x =>
    obtain ⟨a, q1⟩ := x
    rw [hr] at h
    rw [h1 _ _ _ hr]
    cases h
    rfl
theorem zLoc.s1 {X Y : ByteArray} {b : Nat} (hs : zsub X Y b) : zLoc X Y b Reader.s1 Reader.s1 := zLoc.map (zLoc.u1 hs)
theorem zLoc.s2 {X Y : ByteArray} {b : Nat} (hs : zsub X Y b) : zLoc X Y b Reader.s2 Reader.s2 := zLoc.map (zLoc.u2 hs)
theorem zLoc.newarray {X Y : ByteArray} {b pc pc' : Nat} (hs : zsub X Y b) : zLoc X Y b (Decoder.newarray pc) (Decoder.newarray pc') := by
  unfold Decoder.newarray
  refine zLoc.bind (zLoc.u1 hs) fun a => ?_
  split <;> first
    | exact zLoc.pure
    | exact zLoc.throw
def zopc (a : Nat) : Bool := !(Nat.beq a 170 || Nat.beq a 171 || Nat.beq a 185 || Nat.beq a 186 || Nat.beq a 196 || Nat.beq a 197 || Nat.beq a 200 || Nat.beq a 201)
set_option maxHeartbeats 4000000 in
set_option maxRecDepth 20000 in
theorem zLoc.instr {X Y : ByteArray} {b : Nat} (hs : zsub X Y b) {q q' pc pc' : Nat} {i : Instr} (h : Reader.runAt (Decoder.instr pc') Y q = .ok (i, q')) (ho : ∀ hq : q < Y.size, zopc Y[q].toNat = true) : Reader.runAt (Decoder.instr pc) X (b + q) = .ok (i, b + q') := by
  unfold Decoder.instr at h ⊢
  rw [zrun_bind] at h ⊢
  have hz : ∀ a q1, Reader.runAt (Reader.u1 : Decoder Nat) Y q = .ok (a, q1) → zopc a = true := by
    intro a q1 h
    rw [zrun_u1] at h
    by_cases hq : q < Y.size
    · rw [dif_pos hq] at h
      cases h
      exact ho hq
    · rw [dif_neg hq] at h
      cases h
  cases hr : Reader.runAt (Reader.u1 : Decoder Nat) Y q with
  | error e =>
    rw [hr] at h
    cases h
  | ok x =>
    obtain ⟨a, q1⟩ := x
    rw [hr] at h
    rw [zLoc.u1 hs _ _ _ hr]
    have hz := hz _ _ hr
    dsimp only at h ⊢
    revert h
    split <;> first
      | exact fun h => zLoc.pure _ _ _ h
      | exact fun h => zLoc.bind (zLoc.u1 hs) (fun _ => zLoc.pure) _ _ _ h
      | exact fun h => zLoc.bind (zLoc.s1 hs) (fun _ => zLoc.pure) _ _ _ h
      | exact fun h => zLoc.bind (zLoc.u2 hs) (fun _ => zLoc.pure) _ _ _ h
      | exact fun h => zLoc.bind (zLoc.s2 hs) (fun _ => zLoc.pure) _ _ _ h
      | exact fun h => zLoc.bind (zLoc.u1 hs) (fun _ => zLoc.bind (zLoc.s1 hs) fun _ => zLoc.pure) _ _ _ h
      | exact fun h => zLoc.newarray hs _ _ _ h
      | exact absurd hz (by decide)
      | exact fun h => nomatch h
theorem zdec_win {X Y : ByteArray} {b q len : Nat} {i : Instr} (hs : zsub X Y b) (hd : decode Y q = .ok (i, len)) (ho : ∀ hq : q < Y.size, zopc Y[q].toNat = true) : decode X (b + q) = .ok (i, len) := by
  unfold decode at hd ⊢
  cases hr : Reader.runAt (Decoder.instr q) Y q with
  | error e =>
    rw [hr] at hd
    cases hd
  | ok x =>
    obtain ⟨a, q1⟩ := x
    rw [hr] at hd
    rw [zLoc.instr (pc := b + q) hs hr ho]
    cases hd
    show Except.ok (i, b + q1 - (b + q)) = _
    rw [Nat.add_sub_add_left]
