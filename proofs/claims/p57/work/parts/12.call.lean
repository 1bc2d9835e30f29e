/-! A call. -/
section ZCALL
variable {p : Program} {l : Launch} {e : Env} {R : Room} {s : State} {m : MethodId} {args : Array Value} {below : List Frame} {meth : Method} {c : Code} {H : Heap} {locs : List Loc} {cells slots : Nat} {Q : State → Prop}
/-- that runs of the small machine of at most n steps are true ones: the frame of the method stands at a place, .. -/
def zGoal (P : zP) (M : zT) (G : zG) (X : State → Prop) (mi pc : Nat) (L : zLs) (st : List zV) (h : zH) (out : zO) (h' : zH) : Prop :=
  ∀ (p : Program) (l : Launch) (e : Env) (R : Room) (s : State) (m : MethodId) (args : Array Value) (below : List Frame) (meth : Method) (c : Code), zCx P M G X mi p l R s m args meth c →
  ∀ (H : Heap) (locs : List Loc) (cells slots : Nat) (ls : Array Slot) (ρ ρ0 : Nat → Nat → Nat) (h0 : zH) (mc ms : Nat) (o : zOp), P.1 mi pc = some o → va_S G.2.2.2.1 s.heap H locs → zRel G h H ρ → zLV (P.2.1 mi).1 ρ L ls → (∀ i v, zget L i = some v → zokv h v) → (∀ v ∈ st, zokv h v) →
    zag h0 ρ0 ρ → (∀ k i, zex h0 k i → zex h k i) → cells + zce h' = mc + zce h → slots + zso h' = ms + zso h → mc ≤ R.cells → ms ≤ R.slots →
    W p l e R s m args below meth c H locs cells slots (vx_MQ below (zQ G ρ0 h0 out h') (zX G ρ0 h0 out h') args s mc ms G.2.2.2.1) (F0 m o.1.2 ls (zM ρ st))
def zPc (G : zG) (X : State → Prop) (h : zH) (ρ : Nat → Nat → Nat) (as : List zV) : Array Value → State → Prop := va_Pc (zM ρ as) (fun U => zRel G h U.heap ρ ∧ zEnv G U ∧ X U)
theorem zPc_blind {G : zG} {X : State → Prop} {h : zH} {ρ : Nat → Nat → Nat} {as : List zV} (hXb : ∀ U g mk a, X U → X (State.calling U g mk a)) : FrameBlind (zPc G X h ρ as) := by
  intro a U g mk hp
  obtain ⟨h1, h2, ⟨a1, a2, a3, a4, a5⟩, h4⟩ := hp
  exact ⟨h1, h2, ⟨va_K.moved (u := U) (U := U.calling g mk a) (Vm.Alike.refl U.vm) a1, va_X.moved (u := U) (U := U.calling g mk a) (Vm.Alike.refl U.vm) a2, a3, a4, a5⟩, hXb _ _ _ _ h4⟩
def zrm (M : zT) (mi mc ms : Nat) : Room := { frames := M.2.2.2.2.1 mi, cells := mc, slots := ms, locals := M.2.2.2.2.2 mi }
theorem zcw_good (P : zP) (M : zT) (mi : Nat) (a' : Array Value) {U : State} (hW : s.WarmedH U.vm) (h : (zcw P M mi).before args s = true) : (zcw P M mi).before a' U = true := by
  unfold zcw at h ⊢
  cases hh : M.2.2.2.1 mi with
  | nil =>
    rw [hh] at h
    exact word_at hW (Or.inl rfl) h
  | cons x l =>
    rw [hh] at h
    exact word_at hW (Or.inl rfl) h
/-- the contract of a method's run -/
theorem zmet {P : zP} {M : zT} {G : zG} {X : State → Prop} {mj : Nat} {as : List zV} {h h1 : zH} {out : zO} {ρ : Nat → Nat → Nat} (o0 : zOp) (hP0 : P.1 mj 0 = some o0) (hb0 : o0.1.2 = 0) (hpl : plainName (M.1 mj).cls = true) (hls : l.stackTraces = false) (hle : zle h h1)
    (hn : (zil as).length ≤ (P.2.1 mj).1) (hv : ∀ v ∈ as, zokv h v) (ih : zGoal P M G X mj 0 (zpad (P.2.1 mj).1 (zil as)) [] h out h1) :
    vx_Met l (M.1 mj) (zws P M mj) (zrm M mj (zce h1 - zce h) (zso h1 - zso h)) (zPc G X h ρ as) (zQ G ρ h out h1) (zX G ρ h out h1) (zce h1 - zce h) (zso h1 - zso h) G.2.2.2.1 := by
  have body : ∀ p e s m args below meth c s₁, BodyLoose p l (M.1 mj) (headSpec (zws P M mj) (zrm M mj (zce h1 - zce h) (zso h1 - zso h))) (M.2.1 mj) (P.2.1 mj).1 (M.2.2.1 mj) e s m args below meth c s₁ → c.maxLocals = (P.2.1 mj).1 → c.exceptionTable.toList = tableOf (M.2.2.2.1 mj) → zPc G X h ρ as args s →
      W p l e (headSpec (zws P M mj) (zrm M mj (zce h1 - zce h) (zso h1 - zso h))).room s m args below meth c s.heap [] 0 0 (vx_MQ below (zQ G ρ h out h1) (zX G ρ h out h1) args s (zce h1 - zce h) (zso h1 - zso h) G.2.2.2.1) (entryFrame m args (P.2.1 mj).1) := by
    intro p e s m args below meth c s₁ B hml ht hp
    obtain ⟨rfl, hR, hE, hX⟩ := hp
    rw [lg_entry_eq]
    have hts0 := atoms_spec (ws := zws P M mj) B.pre
    have hts : ∀ w ∈ zTs, w.before (zM ρ as).toArray s = true := fun w hw => hts0 w (List.mem_cons_of_mem _ hw)
    have k := ih p l e (headSpec (zws P M mj) (zrm M mj (zce h1 - zce h) (zso h1 - zso h))).room s m (zM ρ as).toArray below meth c
      ⟨B.exec, B.bytes, hml, findClass_of_methodNamed B.named, hts, B.returns, B.notSynchronized, ht, (name_of_methodNamed B.named B.method).1, Nat.le_refl _, Nat.le_refl _, hE, hX, hls⟩
      s.heap [] 0 0 _ ρ ρ h (zce h1 - zce h) (zso h1 - zso h) o0 hP0 va_S.rf hR (zLV_entry hn) (fun i v hi => hv v (zget_il (zget_pad hi))) (fun v hv => nomatch hv) (fun _ _ _ _ => rfl) (fun _ _ z => z) (by have := hle.1; omega) (by have := hle.2.1; omega) (Nat.le_refl _) (Nat.le_refl _)
    rw [hb0] at k
    exact k
  cases hh : M.2.2.2.1 mj with
  | nil =>
    have e1 : zws P M mj = Cond.code (M.1 mj) (M.2.1 mj) (P.2.1 mj).1 (M.2.2.1 mj) :: zTs := by
      unfold zws zcw
      rw [hh]
    refine vx_ofW hpl e1 fun p e s m args below meth c s₁ B hml ht hp => body p e s m args below meth c s₁ B hml ?_ hp
    rw [hh]
    exact List.eq_nil_iff_forall_not_mem.mpr ht
  | cons x lh =>
    have e1 : zws P M mj = Cond.codeWith (M.1 mj) (M.2.1 mj) (P.2.1 mj).1 (M.2.2.1 mj) (x :: lh) :: zTs := by
      unfold zws zcw
      rw [hh]
    refine vx_ofWH hpl e1 fun p e s m args below meth c s₁ B hml hp => body p e s m args below meth c s₁ B hml ?_ hp
    rw [hh]
    exact vx_table (x := M.1 mj) B (atoms_spec (ws := zws P M mj) B.pre _ (by rw [e1]; exact List.mem_cons_self))
theorem zmet_ret {y : MethodName} {ws : List Cond} {rm : Room} {Pc : Array Value → State → Prop} {G : zG} {ρ : Nat → Nat → Nat} {h h1 : zH} {v : Option zV} {mc ms : Nat} {free : Addr → Prop} (hM : vx_Met l y ws rm Pc (zQ G ρ h (.inl v) h1) (zX G ρ h (.inl v) h1) mc ms free) : Met l y ws rm Pc (zQ G ρ h (.inl v) h1) mc ms free := by
  intro p e ha hc hk s m args below hf happ hpre hk2
  obtain ⟨n, o, a1, a2, a3, a4⟩ := hM p e ha hc hk s m args below hf happ hpre hk2
  refine ⟨n, o, a1, a2, a3, ?_⟩
  rcases a4 with a4 | ⟨q, -, E, ce, L, ⟨ρ', e', hx, -⟩, -⟩
  · exact a4
  · cases hx
/-- behind a call that has answered -/
theorem zcont {G : zG} {ρ : Nat → Nat → Nat} {h h1 : zH} {v : Option zV} {a : Array Value} {mc ms pc : Nat} {ls : Array Slot} {st0 rest : List Value}
    (hr : va_Run p l e R s m args below meth c H locs cells slots mc ms (F0 m pc ls st0) rest (zQ G ρ h (.inl v) h1 a) G.2.2.2.1) (hS : va_S G.2.2.2.1 s.heap H locs)
    (kk : ∀ (ρ' : Nat → Nat → Nat) (H1 : Heap) (locs1 : List Loc), zag h ρ ρ' → (∀ w, v = some w → zokv h1 w) → zRel G h1 H1 ρ' → va_S G.2.2.2.1 s.heap H1 locs1 → W p l e R s m args below meth c H1 locs1 (cells + mc) (slots + ms) Q (F0 m (pc + 3) ls ((v.map (ztv ρ')).toList ++ rest))) :
    W p l e R s m args below meth c H locs cells slots Q (F0 m pc ls st0) := by
  intro T hT X
  obtain ⟨w, st₀, t, T', L, h0', X', hL, e1, e2, ⟨ρ', v', hv', ho, ha, hok, hR, hF⟩, st⟩ := hr T hT X
  cases hv'
  cases ho
  obtain ⟨k1, k2, k3⟩ := vx_keep h0' e1 hS (fun q _ z => z) (fun q z => z) hL hF
  obtain ⟨t2, a1, b1⟩ := kk ρ' T'.heap (locs ++ L) ha hok (by rw [e1]; exact hR) k3 T' rfl X'
  exact ⟨t2, st t2 a1, b1⟩
theorem zrun_of_vx {G : zG} {ρ : Nat → Nat → Nat} {h h1 : zH} {v : Option zV} {a : Array Value} {mc ms : Nat} {g : JFrame} {rest : List Value}
    (hr : vx_Run p l e R s m args below meth c H locs cells slots mc ms g rest (zQ G ρ h (.inl v) h1 a) (zX G ρ h (.inl v) h1) G.2.2.2.1) : va_Run p l e R s m args below meth c H locs cells slots mc ms g rest (zQ G ρ h (.inl v) h1 a) G.2.2.2.1 := by
  intro T hT X
  rcases hr T hT X with a1 | ⟨q, st₀, t, T', L, E, ce, h0, X', hL, e1, e2, ⟨ρ', e', hx, -⟩, -⟩
  · exact a1
  · cases hx
/-- behind a call that has thrown -/
theorem zcontX {G : zG} {ρ : Nat → Nat → Nat} {h h1 : zH} {E : Nat} {a : Array Value} {mc ms pc : Nat} {ls : Array Slot} {st0 rest : List Value}
    (hr : vx_Run p l e R s m args below meth c H locs cells slots mc ms (F0 m pc ls st0) rest (zQ G ρ h (.inr E) h1 a) (zX G ρ h (.inr E) h1) G.2.2.2.1) (hS : va_S G.2.2.2.1 s.heap H locs)
    (kk : ∀ (ρ' : Nat → Nat → Nat) (H1 : Heap) (locs1 : List Loc) (q : Addr) (ce : Cell), zag h ρ ρ' → zRel G h1 H1 ρ' → va_S G.2.2.2.1 s.heap H1 locs1 → H1[q]? = some ce → ce.vm = .none → s.vm.findClass (zEx E) = some ce.cls → vx_W p l e R s m args below meth c H1 locs1 (cells + mc) (slots + ms) Q (F0 m pc ls rest) q) :
    W p l e R s m args below meth c H locs cells slots Q (F0 m pc ls st0) := by
  intro T hT X
  rcases hr T hT X with ⟨w, st₀, t, T', L, h0', X', hL, e1, e2, ⟨ρ', v', hv', -⟩, -⟩ | ⟨q, st₀, t, T', L, E', ce, h0', X', hL, e1, e2, ⟨ρ', e', hx, rfl, ha, hR, hF⟩, hce, hcv, hcl, st⟩
  · cases hv'
  · cases hx
    obtain ⟨k1, k2, k3⟩ := vx_keep h0' e1 hS (fun q _ z => z) (fun q z => z) hL hF
    obtain ⟨t2, a1, b1⟩ := kk ρ' T'.heap (locs ++ L) q ce ha (by rw [e1]; exact hR) k3 (by rw [e1]; exact hce) hcv hcl T' rfl X'
    exact ⟨t2, st.trans a1, b1⟩
end ZCALL
