/-! The JDK's methods, walked by hand: their calls. -/
def zJQ (G : zG) (Φ : Option Value → Heap → Prop) : Array Value → State → Outcome → State → Prop := fun _ st o t => ∃ v, o = .returned v ∧ Φ v t.heap ∧ va_F G.2.2.2.1 st t
def zJx (G : zG) (X : State → Prop) (own : String) (cc : ByteArray) (nL : Nat) (ret : Option FieldType) (fr lo : Nat) (p : Program) (R : Room) (s : State) (m : MethodId) (args : Array Value) (meth : Method) (c : Code) : Prop :=
  p.tables.exec = Jvm.exec ∧ c.code = cc ∧ c.maxLocals = nL ∧ s.vm.findClass own = some m.cls ∧ (∀ w ∈ zTs, w.before args s = true) ∧ meth.sig.returnType = ret ∧ meth.locks = false ∧ fr ≤ R.frames ∧ lo ≤ R.locals ∧ zEnv G s ∧ X s
def zXok (G : zG) (X : State → Prop) : Prop := (∀ (s U : State) (H : Heap) (locs : List Loc), X s → va_S G.2.2.2.1 s.heap H locs → U.heap = H → s.WarmedH U.vm → X U) ∧ ∀ U g mk a, X U → X (State.calling U g mk a)
def zJb (l : Launch) (G : zG) (X : State → Prop) (y : MethodName) (bytes : ByteArray) (maxL : Nat) (ret : Option FieldType) (fr lo mc ms : Nat) (as : List Value) (Ψ : Heap → Prop) (Φ : Option Value → Heap → Prop) : Prop :=
  ∀ (p : Program) (e : Env) (R : Room) (s : State) (m : MethodId) (below : List Frame) (meth : Method) (c : Code) (ls : Array Slot), zJx G X y.cls bytes maxL ret fr lo p R s m as.toArray meth c → Ψ s.heap → mc ≤ R.cells → ms ≤ R.slots → lv_has ls maxL (lv_args 0 as) →
    W p l e R s m as.toArray below meth c s.heap [] 0 0 (vx_MQ below (zJQ G Φ) (fun _ _ _ => False) as.toArray s mc ms G.2.2.2.1) (F0 m 0 ls [])
/-- what the tables say of a method of the JDK's -/
def zJy (y : MethodName) (bytes : ByteArray) (maxL : Nat) (ret : Option FieldType) (n : Nat) : Prop :=
  plainName y.cls = true ∧ Cond.code y bytes maxL ret ∈ zTs ∧ Cond.initialized y.cls ∈ zTs ∧ (y.cls ≠ "java/lang/invoke/MethodHandle" ∧ y.cls ≠ "java/lang/invoke/VarHandle") ∧ (parseMethodDescriptor y.desc).map (fun d => d.parameters.length) = some n
def zJPc (G : zG) (X : State → Prop) (as : List Value) (Ψ : Heap → Prop) : Array Value → State → Prop := va_Pc as (fun U => Ψ U.heap ∧ zEnv G U ∧ X U)
theorem zJPc_blind {G : zG} {X : State → Prop} {as : List Value} {Ψ : Heap → Prop} (hXb : ∀ U g mk a, X U → X (State.calling U g mk a)) : FrameBlind (zJPc G X as Ψ) := by
  intro a U g mk hp
  obtain ⟨h1, h2, ⟨a1, a2, a3, a4, a5⟩, h4⟩ := hp
  exact ⟨h1, h2, ⟨va_K.moved (u := U) (U := U.calling g mk a) (Vm.Alike.refl U.vm) a1, va_X.moved (u := U) (U := U.calling g mk a) (Vm.Alike.refl U.vm) a2, a3, a4, a5⟩, hXb _ _ _ _ h4⟩
def zJrm (fr lo mc ms : Nat) : Room := { frames := fr, cells := mc, slots := ms, locals := lo }
section ZJ
variable {p : Program} {l : Launch} {e : Env} {R : Room} {s : State} {m : MethodId} {args : Array Value} {below : List Frame} {meth : Method} {c : Code} {H : Heap} {locs : List Loc} {cells slots : Nat} {Q : State → Prop}
variable {G : zG} {X : State → Prop} {own : String} {cc : ByteArray} {nL fr0 lo0 : Nat} {ret0 : Option FieldType} {y : MethodName} {bytes : ByteArray} {maxL fr lo mc ms pc idx : Nat} {ret : Option FieldType} {as rest : List Value} {Ψ : Heap → Prop} {Φ : Option Value → Heap → Prop} {ls : Array Slot}
theorem zJmet {n : Nat} (hj : zJb l G X y bytes maxL ret fr lo mc ms as Ψ Φ) (hy : zJy y bytes maxL ret n) (hn : (lg_sl as).length ≤ maxL) :
    Met l y (Cond.code y bytes maxL ret :: zTs) (zJrm fr lo mc ms) (zJPc G X as Ψ) (zJQ G Φ) mc ms G.2.2.2.1 := by
  have hM : vx_Met l y (Cond.code y bytes maxL ret :: zTs) (zJrm fr lo mc ms) (zJPc G X as Ψ) (zJQ G Φ) (fun _ _ _ => False) mc ms G.2.2.2.1 := by
    refine vx_ofW hy.1 rfl fun p e s m args below meth c s₁ B hml ht hp => ?_
    obtain ⟨rfl, hR, hE, hX⟩ := hp
    rw [lg_entry_eq]
    have hts0 := atoms_spec (ws := Cond.code y bytes maxL ret :: zTs) B.pre
    exact hj p e (headSpec (Cond.code y bytes maxL ret :: zTs) (zJrm fr lo mc ms)).room s m below meth c _ ⟨B.exec, B.bytes, hml, findClass_of_methodNamed B.named, fun w hw => hts0 w (List.mem_cons_of_mem _ hw), B.returns, B.notSynchronized, Nat.le_refl _, Nat.le_refl _, hE, hX⟩ hR (Nat.le_refl _) (Nat.le_refl _) (lv_entry as hn)
  intro p e ha hc hk s m args below hf happ hpre hk2
  obtain ⟨n, o, a1, a2, a3, a4⟩ := hM p e ha hc hk s m args below hf happ hpre hk2
  refine ⟨n, o, a1, a2, a3, ?_⟩
  rcases a4 with a4 | ⟨q, -, E, ce, L, hF, -⟩
  · exact a4
  · exact hF.elim
theorem zJcont {a : Array Value} {st0 : List Value} (hr : va_Run p l e R s m args below meth c H locs cells slots mc ms (F0 m pc ls st0) rest (zJQ G Φ a) G.2.2.2.1) (hS : va_S G.2.2.2.1 s.heap H locs)
    (kk : ∀ (v : Option Value) (H1 : Heap) (locs1 : List Loc), Φ v H1 → va_S G.2.2.2.1 s.heap H1 locs1 → W p l e R s m args below meth c H1 locs1 (cells + mc) (slots + ms) Q (F0 m (pc + 3) ls (v.toList ++ rest))) :
    W p l e R s m args below meth c H locs cells slots Q (F0 m pc ls st0) := by
  intro T hT X
  obtain ⟨w, st₀, t, T', L, h0', X', hL, e1, e2, ⟨v', ho, hΦ, hF⟩, st⟩ := hr T hT X
  cases ho
  obtain ⟨k1, k2, k3⟩ := vx_keep h0' e1 hS (fun q _ z => z) (fun q z => z) hL hF
  obtain ⟨t2, a1, b1⟩ := kk _ T'.heap (locs ++ L) (by rw [e1]; exact hΦ) k3 T' rfl X'
  exact ⟨t2, st t2 a1, b1⟩
theorem zJcont5 {a : Array Value} {st0 : List Value} (hr : va_Run5 p l e R s m args below meth c H locs cells slots mc ms (F0 m pc ls st0) rest (zJQ G Φ a) G.2.2.2.1) (hS : va_S G.2.2.2.1 s.heap H locs)
    (kk : ∀ (v : Option Value) (H1 : Heap) (locs1 : List Loc), Φ v H1 → va_S G.2.2.2.1 s.heap H1 locs1 → W p l e R s m args below meth c H1 locs1 (cells + mc) (slots + ms) Q (F0 m (pc + 5) ls (v.toList ++ rest))) :
    W p l e R s m args below meth c H locs cells slots Q (F0 m pc ls st0) := by
  intro T hT X
  obtain ⟨w, st₀, t, T', L, h0', X', hL, e1, e2, ⟨v', ho, hΦ, hF⟩, st⟩ := hr T hT X
  cases ho
  obtain ⟨k1, k2, k3⟩ := vx_keep h0' e1 hS (fun q _ z => z) (fun q z => z) hL hF
  obtain ⟨t2, a1, b1⟩ := kk _ T'.heap (locs ++ L) (by rw [e1]; exact hΦ) k3 T' rfl X'
  exact ⟨t2, st t2 a1, b1⟩
theorem zJpre (hC : zJx G X own cc nL ret0 fr0 lo0 p R s m args meth c) (hok : zXok G X) (hS : va_S G.2.2.2.1 s.heap H locs) (hΨ : Ψ H) : ∀ U : State, U.heap = H → s.WarmedH U.vm → zJPc G X as Ψ as.toArray U := by
  intro U hU hW
  obtain ⟨-, -, -, -, -, -, -, -, -, hE, hX⟩ := hC
  exact ⟨rfl, by rw [hU]; exact hΨ, hE.mv hS hU hW.alike, hok.1 s U H locs hX hS hU hW⟩
theorem zJin (hy : zJy y bytes maxL ret as.length) : ∀ w ∈ Cond.code y bytes maxL ret :: zTs, w ∈ zTs := fun w hw => (List.mem_cons.mp hw).elim (fun z => z ▸ hy.2.1) id
/-- a static method's call -/
theorem zJS (hC : zJx G X own cc nL ret0 fr0 lo0 p R s m args meth c) (hok : zXok G X) (hy : zJy y bytes maxL ret as.length) (hj : zJb l G X y bytes maxL ret fr lo mc ms as Ψ Φ) (hn : (lg_sl as).length ≤ maxL)
    (hlink : Cond.methodLink own idx y ∈ zTs) (hst : Cond.static y ∈ zTs) (hfr : fr + 1 ≤ fr0) (hlo : 8 + (maxL + 11) + lo ≤ lo0) (hS : va_S G.2.2.2.1 s.heap H locs) (hΨ : Ψ H) (hls : ls.size = nL) (hr : (rest.map fun v => v.category).sum ≤ 8)
    (hdg : decode cc pc = .ok (.invokestatic idx, 3)) (hc : cells + mc ≤ R.cells) (hs : slots + ms ≤ R.slots)
    (kk : ∀ (v : Option Value) (H1 : Heap) (locs1 : List Loc), Φ v H1 → va_S G.2.2.2.1 s.heap H1 locs1 → W p l e R s m args below meth c H1 locs1 (cells + mc) (slots + ms) Q (F0 m (pc + 3) ls (v.toList ++ rest))) :
    W p l e R s m args below meth c H locs cells slots Q (F0 m pc ls (as.reverse ++ rest)) := by
  obtain ⟨hx, hb, hml, hown, hts, -, -, hf0, hl0, -, -⟩ := id hC
  have S : CallFix p m c cc nL s args zTs own := ⟨hx, hb, hml, hown, hts⟩
  exact zJcont (a := as.toArray) (va_runS S (zJmet hj hy hn) ⟨callB_of as.length hts (zGI (zJin hy)) rfl rfl rfl (hts _ hy.2.2.1) (hts _ hlink) ⟨hy.2.2.2.1.1, hy.2.2.2.1.2, hy.2.2.2.2⟩ ⟨Nat.le_trans hfr hf0, Nat.le_trans hlo hl0⟩, hts _ hst⟩ ⟨zJPc_blind hok.2, zJpre hC hok hS hΨ⟩ rfl rfl hls rfl (by show 2 * 0 + _ ≤ 8; omega) hdg ⟨hc, hs⟩) hS kk
/-- a method of an object's -/
theorem zJV {a : Nat} (hC : zJx G X own cc nL ret0 fr0 lo0 p R s m args meth c) (hok : zXok G X) (hy : zJy y bytes maxL ret as.length) (hj : zJb l G X y bytes maxL ret fr lo mc ms (.ref a :: as) Ψ Φ) (hn : (lg_sl (.ref a :: as)).length ≤ maxL)
    (hlink : Cond.methodLink own idx y ∈ zTs) (hst : Cond.instanceMethod y ∈ zTs) (hsel : Cond.selects y.cls y y ∈ zTs) (hrc : ∃ cell : Cell, H[a]? = some cell ∧ cell.vm.isStatics = false ∧ s.vm.findClass y.cls = some cell.cls) (hfr : fr + 1 ≤ fr0) (hlo : 8 + (maxL + 11) + lo ≤ lo0)
    (hS : va_S G.2.2.2.1 s.heap H locs) (hΨ : Ψ H) (hls : ls.size = nL) (hr : (rest.map fun v => v.category).sum ≤ 8)
    (hdg : decode cc pc = .ok (.invokevirtual idx, 3)) (hc : cells + mc ≤ R.cells) (hs : slots + ms ≤ R.slots)
    (kk : ∀ (v : Option Value) (H1 : Heap) (locs1 : List Loc), Φ v H1 → va_S G.2.2.2.1 s.heap H1 locs1 → W p l e R s m args below meth c H1 locs1 (cells + mc) (slots + ms) Q (F0 m (pc + 3) ls (v.toList ++ rest))) :
    W p l e R s m args below meth c H locs cells slots Q (F0 m pc ls (as.reverse ++ .ref a :: rest)) := by
  obtain ⟨hx, hb, hml, hown, hts, -, -, hf0, hl0, -, -⟩ := id hC
  have S : CallFix p m c cc nL s args zTs own := ⟨hx, hb, hml, hown, hts⟩
  exact zJcont (a := (.ref a :: as).toArray) (va_runV S (zJmet hj hy hn) (cwV (C := y.cls) as.length hts (zGI (fun w hw => by
    unfold wsV at hw
    rcases List.mem_append.mp hw with z | z
    · simp only [List.mem_cons, List.not_mem_nil, or_false] at z
      rcases z with rfl | rfl | rfl | rfl
      · exact hlink
      · exact hst
      · exact hsel
      · exact hy.2.2.1
    · exact zJin hy w z)) rfl rfl rfl ⟨rfl, hy.2.2.2.1.1, hy.2.2.2.1.2, hy.2.2.2.2⟩ ⟨Nat.le_trans hfr hf0, Nat.le_trans hlo hl0⟩) ⟨zJPc_blind hok.2, hrc, zJpre hC hok hS hΨ⟩ rfl rfl hls rfl (by show 2 * 0 + _ ≤ 8; omega) hdg ⟨hc, hs⟩) hS kk
/-- a constructor's -/
theorem zJI {a : Nat} (hC : zJx G X own cc nL ret0 fr0 lo0 p R s m args meth c) (hok : zXok G X) (hy : zJy y bytes maxL none as.length) (hj : zJb l G X y bytes maxL none fr lo mc ms (.ref a :: as) Ψ Φ) (hn : (lg_sl (.ref a :: as)).length ≤ maxL)
    (hlink : Cond.methodLink own idx y ∈ zTs) (hst : Cond.instanceMethod y ∈ zTs) (hnm : y.name = "<init>") (hfr : fr + 1 ≤ fr0) (hlo : 8 + (maxL + 11) + lo ≤ lo0)
    (hS : va_S G.2.2.2.1 s.heap H locs) (hΨ : Ψ H) (hls : ls.size = nL) (hr : (rest.map fun v => v.category).sum ≤ 8)
    (hdg : decode cc pc = .ok (.invokespecial idx, 3)) (hc : cells + mc ≤ R.cells) (hs : slots + ms ≤ R.slots)
    (kk : ∀ (v : Option Value) (H1 : Heap) (locs1 : List Loc), Φ v H1 → va_S G.2.2.2.1 s.heap H1 locs1 → W p l e R s m args below meth c H1 locs1 (cells + mc) (slots + ms) Q (F0 m (pc + 3) ls (v.toList ++ rest))) :
    W p l e R s m args below meth c H locs cells slots Q (F0 m pc ls (as.reverse ++ .ref a :: rest)) := by
  obtain ⟨hx, hb, hml, hown, hts, -, -, hf0, hl0, -, -⟩ := id hC
  have S : CallFix p m c cc nL s args zTs own := ⟨hx, hb, hml, hown, hts⟩
  exact zJcont (a := (.ref a :: as).toArray) (va_runI S (zJmet hj hy hn) ⟨callB_of as.length hts (zGI (zJin hy)) rfl rfl rfl (hts _ hy.2.2.1) (hts _ hlink) ⟨hy.2.2.2.1.1, hy.2.2.2.1.2, hy.2.2.2.2⟩ ⟨Nat.le_trans hfr hf0, Nat.le_trans hlo hl0⟩, hnm, hts _ hst⟩ ⟨zJPc_blind hok.2, zJpre hC hok hS hΨ⟩ rfl rfl hls rfl (by show 2 * 0 + _ ≤ 8; omega) hdg ⟨hc, hs⟩) hS kk
/-- by an interface -/
theorem zJF {a count : Nat} {x : MethodName} (hC : zJx G X own cc nL ret0 fr0 lo0 p R s m args meth c) (hok : zXok G X) (hy : zJy y bytes maxL ret as.length) (hj : zJb l G X y bytes maxL ret fr lo mc ms (.ref a :: as) Ψ Φ) (hn : (lg_sl (.ref a :: as)).length ≤ maxL)
    (hx2 : x.cls ≠ "java/lang/invoke/MethodHandle" ∧ x.cls ≠ "java/lang/invoke/VarHandle" ∧ (parseMethodDescriptor x.desc).map (fun d => d.parameters.length) = some as.length) (hF : va_Fw y.cls x y s)
    (hlink : Cond.methodLink own idx x ∈ zTs) (hst : Cond.instanceMethod y ∈ zTs) (hsel : Cond.selects y.cls x y ∈ zTs) (hat : ∃ cC, ClassAt s y.cls cC) (hrc : ∃ cell : Cell, H[a]? = some cell ∧ cell.vm.isStatics = false ∧ s.vm.findClass y.cls = some cell.cls) (hfr : fr + 1 ≤ fr0) (hlo : 8 + (maxL + 11) + lo ≤ lo0)
    (hS : va_S G.2.2.2.1 s.heap H locs) (hΨ : Ψ H) (hls : ls.size = nL) (hr : (rest.map fun v => v.category).sum ≤ 8)
    (hdg : decode cc pc = .ok (.invokeinterface idx count, 5)) (hc : cells + mc ≤ R.cells) (hs : slots + ms ≤ R.slots)
    (kk : ∀ (v : Option Value) (H1 : Heap) (locs1 : List Loc), Φ v H1 → va_S G.2.2.2.1 s.heap H1 locs1 → W p l e R s m args below meth c H1 locs1 (cells + mc) (slots + ms) Q (F0 m (pc + 5) ls (v.toList ++ rest))) :
    W p l e R s m args below meth c H locs cells slots Q (F0 m pc ls (as.reverse ++ .ref a :: rest)) := by
  obtain ⟨hx, hb, hml, hown, hts, -, -, hf0, hl0, -, -⟩ := id hC
  have S : CallFix p m c cc nL s args zTs own := ⟨hx, hb, hml, hown, hts⟩
  obtain ⟨cC, hat⟩ := hat
  exact zJcont5 (a := (.ref a :: as).toArray) (va_runF (C := y.cls) hat S (zJmet hj hy hn) (va_cwF as.length hts (zGI (fun w hw => by
    unfold va_wsF at hw
    rcases List.mem_append.mp hw with z | z
    · simp only [List.mem_cons, List.not_mem_nil, or_false] at z
      rcases z with rfl | rfl | rfl | rfl
      · exact hlink
      · exact hsel
      · exact hst
      · exact hy.2.2.1
    · exact zJin hy w z)) rfl rfl rfl hF hx2 ⟨Nat.le_trans hfr hf0, Nat.le_trans hlo hl0⟩) ⟨zJPc_blind hok.2, hrc, zJpre hC hok hS hΨ⟩ rfl rfl hls rfl (by show 2 * 0 + _ ≤ 8; omega) hdg ⟨hc, hs⟩) hS kk
end ZJ
