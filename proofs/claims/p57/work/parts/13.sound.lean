/-! The theorem: a run of the small machine is a run of the true one. -/
/-- what a program's instructions must be, of the bytes -/
def zF1 (P : zP) (M : zT) : Prop := ∀ mi pc o, P.1 mi pc = some o →
  (decode (M.2.1 mi) o.1.2 = .ok (o.1.1, zlen o.1.1) ∨ ∃ d lo hi offs len, o.1.1 = .tableswitch d lo hi offs ∧ decode (M.2.1 mi) o.1.2 = .ok (o.1.1, len) ∧ ∃ a, o.2.1 = 4 :: a) ∧
  (o.2.2 = [] ∨ o.2.2.length = (P.2.1 mi).1) ∧ zsL9 o.1.1 (P.2.1 mi).1 = true ∧
  (∀ g a, o.2.1 = g :: a → g ≤ 9 → g ≠ 4 → ∃ o', P.1 mi (pc + 1) = some o' ∧ o'.1.2 = o.1.2 + zlen o.1.1) ∧
  (∀ t a, o.2.1 = 3 :: t :: a → ∃ o', P.1 mi t = some o' ∧ ∀ off, zoff o.1.1 = some off → (o.1.2 : Int) + off = o'.1.2) ∧
  (∀ d ts, o.2.1 = 4 :: d :: ts → ∀ dflt lo hi offs, o.1.1 = .tableswitch dflt lo hi offs → (∃ o', P.1 mi d = some o' ∧ (o.1.2 : Int) + dflt = o'.1.2) ∧ ∀ (j t : Nat), ts[j]? = some t → ∃ o' off, P.1 mi t = some o' ∧ offs[j]? = some off ∧ (o.1.2 : Int) + off = o'.1.2) ∧
  (∀ a, o.2.1 = 10 :: a → zrtO (P.2.1 mi).2 o.1.1 (M.2.2.1 mi)) ∧
  (o.2.1 = [] → False)
/-- .. of the tables -/
def zF2 (P : zP) (M : zT) : Prop := ∀ mi pc o, P.1 mi pc = some o →
  (∀ a, o.2.1 = 0 :: a → (∀ i n, (o.1.1 = .ldc i ∨ o.1.1 = .ldc_w i) → a = [n] → Cond.constant (M.1 mi).cls i (nI n) ∈ zTs) ∧ ∀ i n, o.1.1 = .ldc2_w i → a = [n] → Cond.constantDouble (M.1 mi).cls i (UInt64.ofNat n) ∈ zTs) ∧
  (∀ a, o.2.1 = 5 :: a → ∀ idx, (o.1.1 = .getfield idx ∨ o.1.1 = .putfield idx) → ∃ ci j, ∃ (C : String) (T : u_T) (N : Nat), a = [ci, j, zft ci j] ∧ ci < 13 ∧ zcl[ci]? = some (C, T, N) ∧ j < N ∧ Cond.fieldLink (M.1 mi).cls idx C (T j).2.1 (T j).2.2.1 ∈ zTs ∧
    (o.1.1 = .putfield idx → (T j).2.2.2 = false ∨ ((T j).2.2.2 = true ∧ (M.1 mi).name = "<init>" ∧ C = (M.1 mi).cls))) ∧
  (∀ a, o.2.1 = 7 :: a → (∀ idx k, o.1.1 = .new idx → a = [k] → ztg k = 0 → ∃ (C : String) (T : u_T) (N : Nat), zcl[zkc k]? = some (C, T, N) ∧ zkc k < 13 ∧ Cond.classLink (M.1 mi).cls idx C ∈ zTs ∧ Cond.instantiable C N ∈ zTs ∧ Cond.initialized C ∈ zTs) ∧
    (∀ idx k, o.1.1 = .new idx → a = [k] → ztg k = 9 → Cond.classLink (M.1 mi).cls idx RJx4a65c ∈ zTs ∧ Cond.instantiable RJx4a65c 3 ∈ zTs ∧ Cond.initialized RJx4a65c ∈ zTs) ∧
    (∀ idx k, o.1.1 = .anewarray idx → a = [k] → ztg k = 5 → ∃ (C : String) (T : u_T) (N : Nat), zcl[zkc k]? = some (C, T, N) ∧ Cond.classLink (M.1 mi).cls idx C ∈ zTs) ∧
    (∀ idx ci, o.1.1 = .checkcast idx → a = [ci] → ∃ (C : String) (T : u_T) (N : Nat), zcl[ci]? = some (C, T, N) ∧ Cond.classLink (M.1 mi).cls idx C ∈ zTs))
/-- .. of a call: 0 of a method of an object, 1 of a static one, 2 of a constructor, 3 and 4 the same of a nest mate's, 5 of a static method with handlers -/
def zF3 (P : zP) (M : zT) (X : State → Prop) : Prop := ∀ mi pc o, P.1 mi pc = some o → ∀ mj na ci kd a, o.2.1 = 9 :: mj :: na :: ci :: kd :: a →
  (∃ o0, P.1 mj 0 = some o0 ∧ o0.1.2 = 0) ∧ plainName (M.1 mj).cls = true ∧ ((M.1 mj).cls ≠ "java/lang/invoke/MethodHandle" ∧ (M.1 mj).cls ≠ "java/lang/invoke/VarHandle") ∧
  Cond.initialized (M.1 mj).cls ∈ zTs ∧ zcw P M mj ∈ zTs ∧ M.2.2.2.2.1 mj + 1 ≤ M.2.2.2.2.1 mi ∧ 8 + ((P.2.1 mj).1 + 11) + M.2.2.2.2.2 mj ≤ M.2.2.2.2.2 mi ∧
  ((kd = 0 ∧ M.2.2.2.1 mj = [] ∧ ∃ idx, o.1.1 = .invokevirtual idx ∧ (∃ (C : String) (T : u_T) (N : Nat), zcl[ci]? = some (C, T, N) ∧ ci ≠ 99 ∧ (M.1 mj).cls = C) ∧ (parseMethodDescriptor (M.1 mj).desc).map (fun d => d.parameters.length + 1) = some na ∧ Cond.methodLink (M.1 mi).cls idx (M.1 mj) ∈ zTs ∧ Cond.instanceMethod (M.1 mj) ∈ zTs ∧ Cond.selects (M.1 mj).cls (M.1 mj) (M.1 mj) ∈ zTs) ∨
   (kd = 1 ∧ M.2.2.2.1 mj = [] ∧ ∃ idx, o.1.1 = .invokestatic idx ∧ (parseMethodDescriptor (M.1 mj).desc).map (fun d => d.parameters.length) = some na ∧ Cond.methodLink (M.1 mi).cls idx (M.1 mj) ∈ zTs ∧ Cond.static (M.1 mj) ∈ zTs) ∨
   (kd = 2 ∧ M.2.2.2.1 mj = [] ∧ ∃ idx, o.1.1 = .invokespecial idx ∧ ci ≠ 99 ∧ (M.1 mj).name = "<init>" ∧ M.2.2.1 mj = none ∧ (parseMethodDescriptor (M.1 mj).desc).map (fun d => d.parameters.length + 1) = some na ∧ Cond.methodLink (M.1 mi).cls idx (M.1 mj) ∈ zTs ∧ Cond.instanceMethod (M.1 mj) ∈ zTs) ∨
   (kd = 3 ∧ M.2.2.2.1 mj = [] ∧ ∃ idx host, o.1.1 = .invokestatic idx ∧ (parseMethodDescriptor (M.1 mj).desc).map (fun d => d.parameters.length) = some na ∧ (∀ s, X s → va_Nw (.methodLinkNest (M.1 mi).cls idx (M.1 mj) host) s) ∧ Cond.static (M.1 mj) ∈ zTs) ∨
   (kd = 4 ∧ M.2.2.2.1 mj = [] ∧ ∃ idx host, o.1.1 = .invokespecial idx ∧ ci ≠ 99 ∧ (M.1 mj).name = "<init>" ∧ M.2.2.1 mj = none ∧ (parseMethodDescriptor (M.1 mj).desc).map (fun d => d.parameters.length + 1) = some na ∧ (∀ s, X s → va_Nw (.methodLinkNest (M.1 mi).cls idx (M.1 mj) host) s) ∧ Cond.instanceMethod (M.1 mj) ∈ zTs) ∨
   (kd = 5 ∧ (∃ x lh, M.2.2.2.1 mj = x :: lh) ∧ ∃ idx, o.1.1 = .invokestatic idx ∧ (parseMethodDescriptor (M.1 mj).desc).map (fun d => d.parameters.length) = some na ∧ Cond.methodLink (M.1 mi).cls idx (M.1 mj) ∈ zTs ∧ Cond.static (M.1 mj) ∈ zTs))
def zThrowOK (P : zP) (M : zT) (G : zG) (X : State → Prop) : Prop := ∀ mi pc o E a, P.1 mi pc = some o → o.2.1 = 11 :: E :: a → P.2.2 mi = [] →
  ∀ (p : Program) (l : Launch) (e : Env) (R : Room) (s : State) (m : MethodId) (args : Array Value) (below : List Frame) (meth : Method) (c : Code), zCx P M G X mi p l R s m args meth c →
  ∀ (H : Heap) (locs : List Loc) (cells slots mc ms : Nat) (ls : Array Slot) (Qc : Array Value → State → Outcome → State → Prop) (XC : String → State → State → Prop), va_S G.2.2.2.1 s.heap H locs → ls.size = c.maxLocals → cells + 1 ≤ mc → slots + 6 ≤ ms → mc ≤ R.cells → ms ≤ R.slots →
    (∀ t : State, s.vm.Alike t.vm → H.size ≤ t.heap.size → (∀ q : Nat, q < H.size → t.heap[q]? = H[q]?) → XC (zEx E) s t) →
    W p l e R s m args below meth c H locs cells slots (vx_MQ below Qc XC args s mc ms G.2.2.2.1) (F0 m o.1.2 ls [])
def zLibOK (P : zP) (M : zT) (G : zG) (X : State → Prop) : Prop := ∀ mi pc o w a, P.1 mi pc = some o → o.2.1 = 8 :: w :: a →
  ∀ (p : Program) (l : Launch) (e : Env) (R : Room) (s : State) (m : MethodId) (args : Array Value) (below : List Frame) (meth : Method) (c : Code), zCx P M G X mi p l R s m args meth c →
  ∀ (H : Heap) (locs : List Loc) (cells slots : Nat) (ls : Array Slot) (ρ : Nat → Nat → Nat) (Q : State → Prop) (pc' : Nat) (L L' : zLs) (st st' : List zV) (h h' : zH), zsLib w pc L st h = some (pc', L', st', h') → va_S G.2.2.2.1 s.heap H locs → zRel G h H ρ → ls.size = c.maxLocals → (∀ v ∈ st, zokv h v) →
    cells + zce h' ≤ R.cells + zce h → slots + zso h' ≤ R.slots + zso h →
    (∀ ρ' H1 locs1 cells1 slots1, zag h ρ ρ' → va_S G.2.2.2.1 s.heap H1 locs1 → zRel G h' H1 ρ' → (∀ v ∈ st', zokv h' v) → cells1 + zce h = cells + zce h' → slots1 + zso h = slots + zso h' → W p l e R s m args below meth c H1 locs1 cells1 slots1 Q (F0 m (o.1.2 + zlen o.1.1) ls (zM ρ' st'))) →
    pc' = pc + 1 ∧ L' = L ∧ W p l e R s m args below meth c H locs cells slots Q (F0 m o.1.2 ls (zM ρ st))
def zHandOK (P : zP) (M : zT) (G : zG) (X : State → Prop) : Prop := ∀ mi pc o E k, P.1 mi pc = some o → zhnd (P.2.2 mi) pc E = some k →
  ∀ (p : Program) (l : Launch) (e : Env) (R : Room) (s : State) (m : MethodId) (args : Array Value) (below : List Frame) (meth : Method) (c : Code), zCx P M G X mi p l R s m args meth c →
  ∀ (H : Heap) (locs : List Loc) (cells slots : Nat) (ρ : Nat → Nat → Nat) (L : zLs) (ls : Array Slot) (rest : List Value) (q : Addr) (ce : Cell) (Qc : Array Value → State → Outcome → State → Prop) (XC : String → State → State → Prop), va_S G.2.2.2.1 s.heap H locs → zLV (P.2.1 mi).1 ρ L ls → H[q]? = some ce → ce.vm = .none → s.vm.findClass (zEx E) = some ce.cls →
    (∀ t : State, t.heap = H → Qc args s (.returned (some (.int (nI k)))) t) →
    vx_W p l e R s m args below meth c H locs cells slots (vx_MQ below Qc XC args s cells slots G.2.2.2.1) (F0 m o.1.2 ls rest) q
