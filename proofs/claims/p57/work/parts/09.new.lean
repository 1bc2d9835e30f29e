/-! Making objects and arrays. -/
theorem ztg_vals (k : Nat) : ztg k ≤ 5 ∨ ztg k = 9 ∨ ztg k = 10 ∨ ztg k = 99 := by
  by_cases hk : k < 41
  · have h9 : ∀ k, k < 41 → ztg k ≤ 5 ∨ ztg k = 9 ∨ ztg k = 10 ∨ ztg k = 99 := by decide
    exact h9 k hk
  · unfold ztg
    have e : zkT[k]? = none := List.getElem?_eq_none (by show 41 ≤ k; omega)
    rw [e]
    generalize Nat.ble 100 k = a
    generalize Nat.ble 200 k = b
    generalize Nat.ble 300 k = c
    cases a <;> cases b <;> cases c <;> simp
/-- two ways to name addresses say the same of all that is there -/
def zagF (h : zH) (ρ ρ' : Nat → Nat → Nat) : Prop := ∀ k i, (zex h k i ∨ (k = zSK ∧ i = 0)) → ρ' k i = ρ k i
/-- .. but for the arrays behind lists -/
def zag (h : zH) (ρ ρ' : Nat → Nat → Nat) : Prop := ∀ k i, k < 1000 → (zex h k i ∨ (k = zSK ∧ i = 0)) → ρ' k i = ρ k i
theorem zagF.ag {h : zH} {ρ ρ' : Nat → Nat → Nat} (a : zagF h ρ ρ') : zag h ρ ρ' := fun k i _ => a k i
theorem zag.ok {h : zH} {ρ ρ' : Nat → Nat → Nat} (a : zag h ρ ρ') {q : Nat × Nat} (hq : zok h q) : ρ' q.1 q.2 = ρ q.1 q.2 := by
  rcases hq.2 with h1 | h1
  · exact a _ _ hq.1 (Or.inl h1)
  · exact a _ _ hq.1 (Or.inr (by rw [h1]; exact ⟨rfl, rfl⟩))
theorem zag.tv {h : zH} {ρ ρ' : Nat → Nat → Nat} (a : zag h ρ ρ') {v : zV} (hv : zokv h v) : ztv ρ' v = ztv ρ v := by
  match v, hv with
  | .inr q, hv => exact congrArg Value.ref (a.ok hv)
  | .inl _, _ => rfl
theorem zag.M {h : zH} {ρ ρ' : Nat → Nat → Nat} (a : zag h ρ ρ') {st : List zV} (hv : ∀ v ∈ st, zokv h v) : zM ρ' st = zM ρ st := List.map_congr_left fun v hx => a.tv (hv v hx)
theorem zag.LV {h : zH} {ρ ρ' : Nat → Nat → Nat} (a : zag h ρ ρ') {nL : Nat} {L : zLs} {ls : Array Slot} (hv : ∀ i v, zget L i = some v → zokv h v) (hL : zLV nL ρ L ls) : zLV nL ρ' L ls :=
  ⟨hL.1, hL.2.1, hL.2.2.1, fun i v hi => by rw [a.tv (hv i v hi)]; exact hL.2.2.2 i v hi⟩
theorem zent_rho {dA : Nat → ClassId} {df : Nat} {ρ ρ' : Nat → Nat → Nat} {h : zH} {k i : Nat} (a : zagF h ρ ρ') (hval : ∀ k i j q, zr h k i j = some q → zok h q) (hx : zex h k i) : zent dA df ρ' h k i = zent dA df ρ h k i := by
  have hm : ∀ k i j, (zr h k i j).map (fun q => ρ' q.1 q.2) = (zr h k i j).map (fun q => ρ q.1 q.2) := by
    intro k i j
    cases hz : zr h k i j with
    | none => rfl
    | some q => exact congrArg some (a.ag.ok (hval _ _ _ _ hz))
  unfold zent
  by_cases hk : 1000 ≤ k
  · rw [if_pos hk, if_pos hk]
    have e : (fun j => if j < zln h (k - 1000) i then (zr h (k - 1000) i j).map (fun q => ρ' q.1 q.2) else none) = fun j => if j < zln h (k - 1000) i then (zr h (k - 1000) i j).map (fun q => ρ q.1 q.2) else none := by
      funext j
      rw [hm]
    rw [e]
  · rw [if_neg hk, if_neg hk]
    have ho : zobj ρ' h k i = zobj ρ h k i := by
      unfold zobj
      refine List.map_congr_left fun j _ => ?_
      unfold zfv
      split
      · rfl
      · rfl
      · rfl
      · cases hz : zr h k i j with
        | none => rfl
        | some q => exact congrArg Value.ref (a.ag.ok (hval _ _ _ _ hz))
    have e5 : (fun j => (zr h k i j).map (fun q => ρ' q.1 q.2)) = fun j => (zr h k i j).map (fun q => ρ q.1 q.2) := funext fun j => hm k i j
    rw [ho, e5]
    rcases ztg_vals k with h5 | h9
    · generalize ztg k = t at h5
      match t, h5 with
      | 0, _ => rfl
      | 1, _ => rfl
      | 2, _ => rfl
      | 3, _ => rfl
      | 4, _ => rfl
      | 5, _ => rfl
      | t + 6, h5 => omega
    · have e9 : (if zi h k i 1 = 0 then Value.null else if zln h k i = 0 then .ref df else .ref (ρ' (k + 1000) i)) = (if zi h k i 1 = 0 then Value.null else if zln h k i = 0 then .ref df else .ref (ρ (k + 1000) i)) := by
        by_cases h1 : zi h k i 1 = 0
        · rw [if_pos h1, if_pos h1]
        · rw [if_neg h1, if_neg h1]
          by_cases h2 : zln h k i = 0
          · rw [if_pos h2, if_pos h2]
          · rw [if_neg h2, if_neg h2]
            have hx2 := (zex_lt (by omega)).mp hx
            rcases h9 with h9 | h9 | h9
            · refine congrArg Value.ref (a _ _ (Or.inl ?_))
              unfold zex
              rw [if_pos (by omega), Nat.add_sub_cancel]
              exact ⟨h9, hx2.2.2, by omega⟩
            · exact absurd h9 hx2.1
            · exact absurd h9 hx2.2.1
      rw [e9]
theorem zent_congr2 {dA : Nat → ClassId} {df : Nat} {ρ : Nat → Nat → Nat} {h h' : zH} {k i : Nat} (h0 : zln h' k i = zln h k i) (h1 : zi h' k i = zi h k i) (h2 : zr h' k i = zr h k i) (h3 : zd h' k i = zd h k i) (h4 : zl h' k i = zl h k i) (h5 : 1000 ≤ k → zr h' (k - 1000) i = zr h (k - 1000) i ∧ zln h' (k - 1000) i = zln h (k - 1000) i) : zent dA df ρ h' k i = zent dA df ρ h k i := by
  unfold zent
  by_cases hk : 1000 ≤ k
  · rw [if_pos hk, if_pos hk, (h5 hk).1, (h5 hk).2]
  · rw [if_neg hk, if_neg hk]
    have ho : zobj ρ h' k i = zobj ρ h k i := by
      unfold zobj
      refine List.map_congr_left fun j _ => ?_
      unfold zfv
      rw [h1, h2, h3]
    rw [ho, h0, h1, h2, h3, h4]
theorem z0_ne {α : Type} {f : Nat → Nat → Nat → α} {k i k' i' : Nat} {g : Nat → α} (h : ¬ (k' = k ∧ i' = i)) : z0 f k i g k' i' = f k' i' := by
  funext j
  exact if_neg h
theorem z0_self {α : Type} {f : Nat → Nat → Nat → α} {k i : Nat} {g : Nat → α} : z0 f k i g k i = g := by
  funext j
  exact if_pos ⟨rfl, rfl⟩
theorem z2_ne {α : Type} {f : Nat → Nat → α} {k i k' i' : Nat} {v : α} (h : ¬ (k' = k ∧ i' = i)) : z2 f k i v k' i' = f k' i' := if_neg h
theorem z2_self {α : Type} {f : Nat → Nat → α} {k i : Nat} {v : α} : z2 f k i v k i = v := if_pos ⟨rfl, rfl⟩
/-- what there is behind a making -/
theorem znw_ex {h : zH} {k n sl : Nat} {g : Nat → Int32} (hk : k < 1000) (h10 : ztg k ≠ 10) (h99 : ztg k ≠ 99) (h9 : ztg k = 9 → n = 0) (k' i' : Nat) : zex (znwi h k n sl g) k' i' ↔ zex h k' i' ∨ (k' = k ∧ i' = zct h k) := by
  have ec : ∀ k2, zct (znwi h k n sl g) k2 = if k2 = k then zct h k + 1 else zct h k2 := fun k2 => rfl
  have el : ∀ k2 i2, zln (znwi h k n sl g) k2 i2 = if k2 = k ∧ i2 = zct h k then n else zln h k2 i2 := fun k2 i2 => rfl
  unfold zex
  by_cases hk' : 1000 ≤ k'
  · rw [if_pos hk', if_pos hk', ec, el]
    have hne : ¬ (k' = k ∧ i' = zct h k) := fun e => by omega
    by_cases e1 : k' - 1000 = k
    · rw [if_pos e1]
      by_cases e2 : i' = zct h k
      · rw [if_pos ⟨e1, e2⟩, e1]
        constructor
        · rintro ⟨a, -, c⟩
          rw [h9 a] at c
          omega
        · rintro (⟨-, b, -⟩ | b)
          · omega
          · exact absurd b hne
      · rw [if_neg (fun z => e2 z.2), e1]
        constructor
        · rintro ⟨a, b, c⟩
          exact Or.inl ⟨a, by omega, c⟩
        · rintro (⟨a, b, c⟩ | b)
          · exact ⟨a, by omega, c⟩
          · exact absurd b hne
    · rw [if_neg e1, if_neg (fun z => e1 z.1)]
      exact ⟨Or.inl, fun z => z.elim id (fun b => absurd b hne)⟩
  · rw [if_neg hk', if_neg hk', ec]
    by_cases e1 : k' = k
    · subst e1
      rw [if_pos rfl]
      constructor
      · rintro ⟨a, b, c⟩
        by_cases e2 : i' = zct h k'
        · exact Or.inr ⟨rfl, e2⟩
        · exact Or.inl ⟨a, b, by omega⟩
      · rintro (⟨a, b, c⟩ | ⟨-, c⟩)
        · exact ⟨a, b, by omega⟩
        · exact ⟨h10, h99, by omega⟩
    · rw [if_neg e1]
      exact ⟨Or.inl, fun z => z.elim id (fun b => absurd b.1 e1)⟩
theorem zRelw.alloc {G : zG} {h : zH} {ρ pos : Nat → Nat → Nat} {ws : va_W} {H1 : Heap} {k n sl q : Nat} {g : Nat → Int32} {E : va_E} (hR : zRelw G h ρ pos ws) (hk : k < 1000) (h10 : ztg k ≠ 10) (h99 : ztg k ≠ 99) (h9 : ztg k = 9 → n = 0)
    (hP : va_P G.1 zcl (ws ++ [(q, E)]) H1) (hD : va_D G.2.2.2.1 (ws ++ [(q, E)]))
    (hE : E = zent G.2.1 G.2.2.1 (z2 ρ k (zct h k) q) (znwi h k n sl g) k (zct h k)) :
    zag h ρ (z2 ρ k (zct h k) q) ∧ zRel G (znwi h k n sl g) H1 (z2 ρ k (zct h k) q) ∧ (∀ q', zok h q' → zok (znwi h k n sl g) q') ∧ zok (znwi h k n sl g) (k, zct h k) := by
  obtain ⟨r1, r2, r3, r4, r5, r6⟩ := hR
  have hex := znw_ex (h := h) (n := n) (sl := sl) (g := g) hk h10 h99 h9
  have hnew : ¬ zex h k (zct h k) := fun z => by
    have := ((zex_lt hk).mp z).2.2
    omega
  have hsk : ¬ ((zSK : Nat) = k ∧ 0 = zct h k) := fun z => h10 (by rw [← z.1]; rfl)
  have ag : zagF h ρ (z2 ρ k (zct h k) q) := by
    intro k' i' hx
    refine z2_ne ?_
    rintro ⟨rfl, rfl⟩
    rcases hx with hx | ⟨e1, e2⟩
    · exact hnew hx
    · exact hsk ⟨e1.symm, e2.symm⟩
  have hok : ∀ q', zok h q' → zok (znwi h k n sl g) q' := fun q' hq => ⟨hq.1, hq.2.elim (fun z => Or.inl ((hex _ _).mpr (Or.inl z))) Or.inr⟩
  have hle : ∀ k' i', zex h k' i' → pos k' i' < ws.length := fun k' i' hx => (List.getElem?_eq_some_iff.mp (r1 k' i' hx)).1
  have hn1 : ∀ k' i', zex h k' i' → ¬ (k' = k ∧ i' = zct h k) := by
    rintro k' i' hx ⟨e1, e2⟩
    rw [e1, e2] at hx
    exact hnew hx
  refine ⟨ag.ag, ⟨_, z2 pos k (zct h k) ws.length, hP, hD, fun k' i' hx => ?_, fun k1 i1 k2 i2 hx1 hx2 he => ?_, fun k' i' j q' hz => ?_, ?_, ?_, ?_⟩, hok, hk, Or.inl ((hex _ _).mpr (Or.inr ⟨rfl, rfl⟩))⟩
  · rcases (hex _ _).mp hx with hx1 | ⟨rfl, rfl⟩
    · have hne := hn1 _ _ hx1
      rw [z2_ne hne, List.getElem?_append_left (hle _ _ hx1), r1 _ _ hx1, ag _ _ (Or.inl hx1)]
      rw [zent_congr2 (h := h) (h' := znwi h k n sl g) (k := k') (i := i') (z2_ne hne) (z0_ne hne) (z0_ne hne) (z0_ne hne) (z0_ne hne) (fun hk' => ?_), zent_rho ag r3 hx1]
      have hne2 : ¬ (k' - 1000 = k ∧ i' = zct h k) := by
        rintro ⟨e1, e2⟩
        unfold zex at hx1
        rw [if_pos hk', e1, e2] at hx1
        omega
      generalize k' - 1000 = k9 at hne2 ⊢
      exact ⟨z0_ne hne2, z2_ne hne2⟩
    · rw [z2_self, z2_self, List.getElem?_append_right (Nat.le_refl _), Nat.sub_self, hE]
      rfl
  · rcases (hex _ _).mp hx1 with a1 | ⟨a1, a2⟩ <;> rcases (hex _ _).mp hx2 with b1 | ⟨b1, b2⟩
    · have n1 := hn1 _ _ a1
      have n2 := hn1 _ _ b1
      rw [z2_ne n1, z2_ne n2] at he
      exact r2 _ _ _ _ a1 b1 he
    · have n1 := hn1 _ _ a1
      subst b1 b2
      rw [z2_ne n1, z2_self] at he
      have := hle _ _ a1
      omega
    · have n2 := hn1 _ _ b1
      subst a1 a2
      rw [z2_ne n2, z2_self] at he
      have := hle _ _ b1
      omega
    · exact ⟨a1.trans b1.symm, a2.trans b2.symm⟩
  · have hz : z0 (zr h) k (zct h k) (fun _ => none) k' i' j = some q' := hz
    by_cases e : k' = k ∧ i' = zct h k
    · obtain ⟨rfl, rfl⟩ := e
      rw [z0_self] at hz
      cases hz
    · rw [z0_ne e] at hz
      exact hok _ (r3 _ _ _ _ hz)
  · rw [z2_ne hsk]
    exact r4
  · show z2 (zln h) k (zct h k) n zSK 0 = _
    rw [z2_ne hsk]
    exact r5
  · intro j hj
    show z0 (zi h) k (zct h k) g zSK 0 j = _
    rw [z0_ne hsk]
    exact r6 j hj
theorem zk_lt {k : Nat} (h : ztg k ≠ 99) : k < 1000 := by
  rcases Nat.lt_or_ge k 1000 with z | z
  · exact z
  · exfalso
    have e1 : Nat.ble 100 k = true := Nat.ble_eq_true_of_le (by omega)
    have e2 : Nat.ble 200 k = true := Nat.ble_eq_true_of_le (by omega)
    have e3 : Nat.ble 300 k = true := Nat.ble_eq_true_of_le (by omega)
    unfold ztg at h
    rw [e1, e2, e3] at h
    exact h rfl
section ZN
variable {p : Program} {l : Launch} {e : Env} {R : Room} {s : State} {m : MethodId} {args : Array Value} {below : List Frame} {meth : Method} {c : Code} {H : Heap} {locs : List Loc} {cells slots : Nat} {Q : State → Prop}
variable {cc : ByteArray} {b nL : Nat} {ls : Array Slot} {ρ : Nat → Nat → Nat} {G : zG}
/-- what making needs of the tables -/
def zNewF (own : String) (args : Array Value) (s : State) (o : Instr) (a : List Nat) : Prop :=
  (∀ idx k, o = .new idx → a = [k] → ztg k = 0 → ∃ (C : String) (T : u_T) (N : Nat), zcl[zkc k]? = some (C, T, N) ∧ zkc k < 13 ∧ (Cond.classLink own idx C).before args s = true ∧ (Cond.instantiable C N).before args s = true ∧ (Cond.initialized C).before args s = true) ∧
  (∀ idx k, o = .new idx → a = [k] → ztg k = 9 → (Cond.classLink own idx RJx4a65c).before args s = true ∧ (Cond.instantiable RJx4a65c 3).before args s = true ∧ (Cond.initialized RJx4a65c).before args s = true) ∧
  (∀ idx k, o = .anewarray idx → a = [k] → ztg k = 5 → ∃ (C : String) (T : u_T) (N : Nat), zcl[zkc k]? = some (C, T, N) ∧ (Cond.classLink own idx C).before args s = true ∧ va_AO C s) ∧
  (∀ idx ci, o = .checkcast idx → a = [ci] → ∃ (C : String) (T : u_T) (N : Nat), zcl[ci]? = some (C, T, N) ∧ (Cond.classLink own idx C).before args s = true)
theorem zAC (hE : zEnv G s) {cA : ClassId} {ty : FieldType} {t : Nat} (ht : (ztys G.2.1)[t]? = some (G.2.1 t, ty)) (hK : va_K G.1 zcl (ztys G.2.1 ++ [(cA, ty)]) s) : cA = G.2.1 t := by
  have h1 := (hE.1.2 t _ ht).2
  have h2 := (hK.2 (ztys G.2.1).length (cA, ty) (by rw [List.getElem?_append_right (Nat.le_refl _), Nat.sub_self]; rfl)).2
  cases ty with
  | object C =>
    obtain ⟨_, _, -, -, -, a⟩ := h1
    obtain ⟨_, _, -, -, -, b⟩ := h2
    exact Option.some.inj (b.symm.trans a)
  | _ => exact Option.some.inj (h2.symm.trans h1)
theorem znw_self {h : zH} {k n sl : Nat} : zi (znw h k n sl) k (zct h k) = (fun _ => 0) ∧ zr (znw h k n sl) k (zct h k) = (fun _ => none) ∧ zd (znw h k n sl) k (zct h k) = (fun _ => 0) ∧ zl (znw h k n sl) k (zct h k) = (fun _ => 0) ∧ zln (znw h k n sl) k (zct h k) = n :=
  ⟨z0_self, z0_self, z0_self, z0_self, z2_self⟩
theorem zs_new (hx : p.tables.exec = Jvm.exec) (hb : c.code = cc) {own : String} (hown : s.vm.findClass own = some m.cls) (hts : ∀ w ∈ zTs, w.before args s = true) (hE : zEnv G s)
    (hAL : ∀ w ∈ u_ws RJx4a65c TJx4a65c 3, w ∈ zTs) (harr : ∀ t, (Cond.arrayClass t) ∈ zTs ∨ ¬ (t = .int ∨ t = .boolean))
    {o : Instr} {a : List Nat} {pc pc' : Nat} {L L' : zLs} {st st' : List zV} {h h' : zH}
    (hs : zsNew o a pc L st h = some (pc', L', st', h')) (hd : decode cc b = .ok (o, zlen o)) (hF : zNewF own args s o a)
    (hS : va_S G.2.2.2.1 s.heap H locs) (hR : zRel G h H ρ) (hv : ∀ v ∈ st, zokv h v)
    (hrc : cells + zce h' ≤ R.cells + zce h) (hrs : slots + zso h' ≤ R.slots + zso h)
    (kk : ∀ ρ' H1 locs1 cells1 slots1, zag h ρ ρ' → va_S G.2.2.2.1 s.heap H1 locs1 → zRel G h' H1 ρ' → (∀ v ∈ st', zokv h' v) → cells1 + zce h = cells + zce h' → slots1 + zso h = slots + zso h' → W p l e R s m args below meth c H1 locs1 cells1 slots1 Q (F0 m (b + zlen o) ls (zM ρ' st'))) :
    pc' = pc + 1 ∧ L' = L ∧ (∀ q, zok h q → zok h' q) ∧ W p l e R s m args below meth c H locs cells slots Q (F0 m b ls (zM ρ st)) := by
  have hR0 := hR
  obtain ⟨ws, pos, hP, hD, hw⟩ := hR
  have hA := hE.2.2.2.2
  have hoknew : ∀ {k n sl : Nat} {g : Nat → Int32}, (∀ q', zok h q' → zok (znwi h k n sl g) q') → ∀ v, zokv h v → zokv (znwi h k n sl g) v := by
    intro k n sl g hq v hv
    match v, hv with
    | .inr q, hv => exact hq q hv
    | .inl (.int _), _ => trivial
    | .inl (.long _), _ => trivial
    | .inl (.float _), _ => trivial
    | .inl (.double _), _ => trivial
    | .inl .null, _ => trivial
  have hce : ∀ (k n sl : Nat), zce (znw h k n sl) = zce h + 1 ∧ zso (znw h k n sl) = zso h + sl := fun _ _ _ => ⟨rfl, rfl⟩
  unfold zsNew at hs
  split at hs
  · rename_i idx k
    cases hq : ztg k == 0 with
    | true =>
      simp only [hq, cond_true, Option.some.injEq, Prod.mk.injEq] at hs
      obtain ⟨rfl, rfl, rfl, rfl⟩ := hs
      have h0 : ztg k = 0 := eq_of_beq hq
      have hk : k < 1000 := zk_lt (by rw [h0]; decide)
      obtain ⟨C, T, N, c1, hci, c2, c3, c4⟩ := hF.1 idx k rfl rfl h0
      obtain ⟨C', T', N', ty0, g1, g2, g3, g4, g5, g6⟩ := zcl_ok _ hci
      obtain ⟨rfl, rfl, rfl⟩ : C' = C ∧ T' = T ∧ N' = N := by
        have := g1.symm.trans c1
        simp only [Option.some.injEq, Prod.mk.injEq] at this
        exact this
      rw [g2, Option.getD_some] at hrc hrs kk ⊢
      obtain ⟨hce1, hce2⟩ := hce k 0 N'
      rw [hce1] at hrc
      rw [hce2] at hrs
      obtain ⟨e1, e2, e3, -, -⟩ := znw_self (h := h) (k := k) (n := 0) (sl := N')
      have al : ∀ q H1, va_P G.1 zcl (ws ++ [(q, .inr (zkc k, zobj ρ (znw h k 0 N') k (zct h k)))]) H1 → va_D G.2.2.2.1 (ws ++ [(q, .inr (zkc k, zobj ρ (znw h k 0 N') k (zct h k)))]) → _ := fun q H1 hP1 hD1 =>
        zRelw.alloc (sl := N') (g := fun _ => 0) hw hk (by rw [h0]; decide) (by rw [h0]; decide) (fun z => rfl) hP1 hD1 (by
          rw [zent_obj hk h0]
          refine congrArg (fun z => Sum.inr (zkc k, z)) ?_
          refine List.map_congr_left fun j _ => ?_
          have e4 : zr (znwi h k 0 N' fun _ => 0) k (zct h k) = fun _ => none := e2
          unfold zfv
          split
          · rfl
          · rfl
          · rfl
          · rw [show zr (znw h k 0 N') k (zct h k) = fun _ => none from e2]
            rw [e4]
            rfl)
      have hok0 : ∀ q', zok h q' → zok (znwi h k 0 N' fun _ => 0) q' := fun q' hq' => ⟨hq'.1, hq'.2.elim (fun z => Or.inl ((znw_ex (h := h) (n := 0) (sl := N') (g := fun _ => 0) hk (by rw [h0]; decide) (by rw [h0]; decide) (fun _ => rfl) _ _).mpr (Or.inl z))) Or.inr⟩
      refine ⟨rfl, rfl, hok0, ?_⟩
      refine va_new (D := G.1) (cl := zcl) (tys := ztys G.2.1) (ci := zkc k) (fs := zobj ρ (znw h k 0 N') k (zct h k)) hx hb hts g5 ty0 g3 hown c2 c3 c4 hE.1 hP hD hS hA c1 (fun j hj => ?_) (by omega) (by omega) hd (fun q H1 hP1 hD1 hS1 => ?_)
      · unfold vp_V
        rw [List.getD_eq_getElem?_getD, zobj_get g2 hj, Option.getD_some]
        obtain ⟨-, t0, t1, t2, t3, t4⟩ := g6 j hj
        generalize zft (zkc k) j = t at t0 t1 t2 t3 t4
        match t, t0, t1, t2, t3, t4 with
        | 0, t0, _, _, _, _ =>
          rw [t0 rfl]
          show _ = Value.int (zi (znw h k 0 N') k (zct h k) j)
          rw [e1]
          rfl
        | 1, _, t1, _, _, _ =>
          rw [t1 rfl]
          show _ = Value.int (zi (znw h k 0 N') k (zct h k) j)
          rw [e1]
          rfl
        | 2, _, _, t2, _, _ =>
          rw [t2 rfl]
          show _ = Value.double (zd (znw h k 0 N') k (zct h k) j)
          rw [e3]
          rfl
        | 3, _, _, _, t3, _ =>
          show _ = ztv ρ (zrv (zr (znw h k 0 N') k (zct h k) j))
          rw [e2]
          rcases t3 rfl with ⟨n, e⟩ | ⟨n, e⟩ <;> rw [e] <;> rfl
        | t + 4, _, _, _, _, t4 => omega
      · obtain ⟨a1, a2, a3, a4⟩ := al q H1 hP1 hD1
        have k9 := kk _ H1 locs (cells + 1) (slots + N') a1 hS1 a2 (fun v hv2 => (List.mem_cons.mp hv2).elim (fun z => z ▸ a4) (fun z => hoknew a3 _ (hv v z))) (by rw [hce1]; omega) (by rw [hce2]; omega)
        have e9 : zM (z2 ρ k (zct h k) q) (zR k (zct h k) :: st) = .ref q :: zM ρ st := by
          show Value.ref (z2 ρ k (zct h k) q k (zct h k)) :: zM _ st = _
          rw [z2_self, a1.M hv]
        rw [e9] at k9
        exact k9
    | false =>
      simp only [hq, cond_false] at hs
      cases hq9 : ztg k == 9 with
      | false => simp [hq9] at hs
      | true =>
        simp only [hq9, cond_true, Option.some.injEq, Prod.mk.injEq] at hs
        obtain ⟨rfl, rfl, rfl, rfl⟩ := hs
        have h0 : ztg k = 9 := eq_of_beq hq9
        have hk : k < 1000 := zk_lt (by rw [h0]; decide)
        obtain ⟨c2, c3, c4⟩ := hF.2.1 idx k rfl rfl h0
        obtain ⟨hce1, hce2⟩ := hce k 0 3
        rw [hce1] at hrc
        rw [hce2] at hrs
        have hok0 : ∀ q', zok h q' → zok (znwi h k 0 3 fun _ => 0) q' := fun q' hq' => ⟨hq'.1, hq'.2.elim (fun z => Or.inl ((znw_ex (h := h) (n := 0) (sl := 3) (g := fun _ => 0) hk (by rw [h0]; decide) (by rw [h0]; decide) (fun _ => rfl) _ _).mpr (Or.inl z))) Or.inr⟩
        refine ⟨rfl, rfl, hok0, ?_⟩
        refine va_new (D := G.1) (cl := zcl) (tys := ztys G.2.1) (ci := 13) (fs := [.int 0, .null, .int 0]) hx hb hts hAL tyJx4a65c tyJx4a65c_ok hown c2 c3 c4 hE.1 hP hD hS hA rfl (fun j hj => ?_) (by omega) (by omega) hd (fun q H1 hP1 hD1 hS1 => ?_)
        · rcases (show j = 0 ∨ j = 1 ∨ j = 2 by omega) with rfl | rfl | rfl <;> rfl
        · obtain ⟨a1, a2, a3, a4⟩ := zRelw.alloc (sl := 3) (g := fun _ => 0) (n := 0) (k := k) hw hk (by rw [h0]; decide) (by rw [h0]; decide) (fun z => rfl) hP1 hD1 (by
            unfold zent
            rw [if_neg (by omega), h0]
            have e0 : zi (znwi h k 0 3 fun _ => 0) k (zct h k) = fun _ => 0 := z0_self
            have e1 : zi (znwi h k 0 3 fun _ => 0) k (zct h k) 1 = 0 := by rw [e0]
            have e2 : zln (znwi h k 0 3 fun _ => 0) k (zct h k) = 0 := z2_self
            show _ = Sum.inr (13, _)
            rw [e1, if_pos rfl, e2]
            rfl)
          have k9 := kk _ H1 locs (cells + 1) (slots + 3) a1 hS1 a2 (fun v hv2 => (List.mem_cons.mp hv2).elim (fun z => z ▸ a4) (fun z => hoknew a3 _ (hv v z))) (by rw [hce1]; omega) (by rw [hce2]; omega)
          have e9 : zM (z2 ρ k (zct h k) q) (zR k (zct h k) :: st) = .ref q :: zM ρ st := by
            show Value.ref (z2 ρ k (zct h k) q k (zct h k)) :: zM _ st = _
            rw [z2_self, a1.M hv]
          rw [e9] at k9
          exact k9
  · rename_i k x st2
    cases hq : ztg k == 1 with
    | false => simp [hq] at hs
    | true =>
      simp only [hq, cond_true] at hs
      have h0 : ztg k = 1 := eq_of_beq hq
      have hk : k < 1000 := zk_lt (by rw [h0]; decide)
      split at hs
      · cases hs
      · rename_i hin
        simp only [Option.some.injEq, Prod.mk.injEq] at hs
        obtain ⟨rfl, rfl, rfl, rfl⟩ := hs
        have hv2 : ∀ v ∈ st2, zokv h v := fun v hz => hv v (List.mem_cons_of_mem _ hz)
        obtain ⟨hce1, hce2⟩ := hce k x.toNatClampNeg x.toNatClampNeg
        rw [hce1] at hrc
        rw [hce2] at hrs
        obtain ⟨e1, e2, e3, e4, e5⟩ := znw_self (h := h) (k := k) (n := x.toNatClampNeg) (sl := x.toNatClampNeg)
        have hok0 : ∀ q', zok h q' → zok (znwi h k x.toNatClampNeg x.toNatClampNeg fun _ => 0) q' := fun q' hq' => ⟨hq'.1, hq'.2.elim (fun z => Or.inl ((znw_ex (h := h) (n := x.toNatClampNeg) (sl := x.toNatClampNeg) (g := fun _ => 0) hk (by rw [h0]; decide) (by rw [h0]; decide) (fun z => absurd z (by rw [h0]; decide)) _ _).mpr (Or.inl z))) Or.inr⟩
        refine ⟨rfl, rfl, hok0, ?_⟩
        have hn0 : ¬ x < 0 := fun z => hin (Or.inl z)
        have hn1 : x.toNatClampNeg ≤ 100000 := Nat.not_lt.mp fun z => hin (Or.inr z)
        refine va_newa (D := G.1) (cl := zcl) (tys := ztys G.2.1) (atype := .int) (ty := .int) (a0 := (x.toNatClampNeg, .inl fun _ => 0)) hx hb (hts _ ((harr .int).resolve_right (fun z => z (by simp)))) rfl hE.1 hP hD hS hA (fun cA => rfl) hn0 rfl (by show x.toNatClampNeg * 4 ≤ 536870912; omega) (by omega) (by omega) hd (fun q cA H1 hK1 hP1 hD1 hS1 => ?_)
        obtain rfl := zAC hE (t := 0) rfl hK1
        obtain ⟨a1, a2, a3, a4⟩ := zRelw.alloc (sl := x.toNatClampNeg) (g := fun _ => 0) (n := x.toNatClampNeg) (k := k) hw hk (by rw [h0]; decide) (by rw [h0]; decide) (fun z => absurd z (by rw [h0]; decide)) hP1 hD1 (by
          rw [zent_a1 hk h0]
          show _ = Sum.inl (_, zln (znw h k x.toNatClampNeg x.toNatClampNeg) k (zct h k), Sum.inl (zi (znw h k x.toNatClampNeg x.toNatClampNeg) k (zct h k)))
          rw [e5, e1])
        have k9 := kk _ H1 locs (cells + 1) (slots + x.toNatClampNeg) a1 hS1 a2 (fun v hv3 => (List.mem_cons.mp hv3).elim (fun z => z ▸ a4) (fun z => hoknew a3 _ (hv2 v z))) (by rw [hce1]; omega) (by rw [hce2]; omega)
        have e9 : zM (z2 ρ k (zct h k) q) (zR k (zct h k) :: st2) = .ref q :: zM ρ st2 := by
          show Value.ref (z2 ρ k (zct h k) q k (zct h k)) :: zM _ st2 = _
          rw [z2_self, a1.M hv2]
        rw [e9] at k9
        exact k9
  · rename_i k x st2
    cases hq : ztg k == 2 with
    | false => simp [hq] at hs
    | true =>
      simp only [hq, cond_true] at hs
      have h0 : ztg k = 2 := eq_of_beq hq
      have hk : k < 1000 := zk_lt (by rw [h0]; decide)
      split at hs
      · cases hs
      · rename_i hin
        simp only [Option.some.injEq, Prod.mk.injEq] at hs
        obtain ⟨rfl, rfl, rfl, rfl⟩ := hs
        have hv2 : ∀ v ∈ st2, zokv h v := fun v hz => hv v (List.mem_cons_of_mem _ hz)
        obtain ⟨hce1, hce2⟩ := hce k x.toNatClampNeg x.toNatClampNeg
        rw [hce1] at hrc
        rw [hce2] at hrs
        obtain ⟨e1, e2, e3, e4, e5⟩ := znw_self (h := h) (k := k) (n := x.toNatClampNeg) (sl := x.toNatClampNeg)
        have hok0 : ∀ q', zok h q' → zok (znwi h k x.toNatClampNeg x.toNatClampNeg fun _ => 0) q' := fun q' hq' => ⟨hq'.1, hq'.2.elim (fun z => Or.inl ((znw_ex (h := h) (n := x.toNatClampNeg) (sl := x.toNatClampNeg) (g := fun _ => 0) hk (by rw [h0]; decide) (by rw [h0]; decide) (fun z => absurd z (by rw [h0]; decide)) _ _).mpr (Or.inl z))) Or.inr⟩
        refine ⟨rfl, rfl, hok0, ?_⟩
        have hn0 : ¬ x < 0 := fun z => hin (Or.inl z)
        have hn1 : x.toNatClampNeg ≤ 100000 := Nat.not_lt.mp fun z => hin (Or.inr z)
        refine va_newa (D := G.1) (cl := zcl) (tys := ztys G.2.1) (atype := .boolean) (ty := .boolean) (a0 := (x.toNatClampNeg, .inl fun _ => 0)) hx hb (hts _ ((harr .boolean).resolve_right (fun z => z (by simp)))) rfl hE.1 hP hD hS hA (fun cA => rfl) hn0 rfl (by show x.toNatClampNeg * 1 ≤ 536870912; omega) (by omega) (by omega) hd (fun q cA H1 hK1 hP1 hD1 hS1 => ?_)
        obtain rfl := zAC hE (t := 1) rfl hK1
        obtain ⟨a1, a2, a3, a4⟩ := zRelw.alloc (sl := x.toNatClampNeg) (g := fun _ => 0) (n := x.toNatClampNeg) (k := k) hw hk (by rw [h0]; decide) (by rw [h0]; decide) (fun z => absurd z (by rw [h0]; decide)) hP1 hD1 (by
          rw [zent_a2 hk h0]
          show _ = Sum.inl (_, zln (znw h k x.toNatClampNeg x.toNatClampNeg) k (zct h k), Sum.inl (zi (znw h k x.toNatClampNeg x.toNatClampNeg) k (zct h k)))
          rw [e5, e1])
        have k9 := kk _ H1 locs (cells + 1) (slots + x.toNatClampNeg) a1 hS1 a2 (fun v hv3 => (List.mem_cons.mp hv3).elim (fun z => z ▸ a4) (fun z => hoknew a3 _ (hv2 v z))) (by rw [hce1]; omega) (by rw [hce2]; omega)
        have e9 : zM (z2 ρ k (zct h k) q) (zR k (zct h k) :: st2) = .ref q :: zM ρ st2 := by
          show Value.ref (z2 ρ k (zct h k) q k (zct h k)) :: zM _ st2 = _
          rw [z2_self, a1.M hv2]
        rw [e9] at k9
        exact k9
  · rename_i k x st2
    cases hq : ztg k == 3 with
    | false => simp [hq] at hs
    | true =>
      simp only [hq, cond_true] at hs
      have h0 : ztg k = 3 := eq_of_beq hq
      exact absurd h0 (ztg_34 k).1
  · rename_i k x st2
    cases hq : ztg k == 4 with
    | false => simp [hq] at hs
    | true =>
      simp only [hq, cond_true] at hs
      have h0 : ztg k = 4 := eq_of_beq hq
      exact absurd h0 (ztg_34 k).2
  · rename_i idx k x st2
    cases hq : ztg k == 5 with
    | false => simp [hq] at hs
    | true =>
      simp only [hq, cond_true] at hs
      have h0 : ztg k = 5 := eq_of_beq hq
      have hk : k < 1000 := zk_lt (by rw [h0]; decide)
      split at hs
      · cases hs
      · rename_i hin
        simp only [Option.some.injEq, Prod.mk.injEq] at hs
        obtain ⟨rfl, rfl, rfl, rfl⟩ := hs
        have hv2 : ∀ v ∈ st2, zokv h v := fun v hz => hv v (List.mem_cons_of_mem _ hz)
        obtain ⟨hce1, hce2⟩ := hce k x.toNatClampNeg x.toNatClampNeg
        rw [hce1] at hrc
        rw [hce2] at hrs
        obtain ⟨e1, e2, e3, e4, e5⟩ := znw_self (h := h) (k := k) (n := x.toNatClampNeg) (sl := x.toNatClampNeg)
        have hok0 : ∀ q', zok h q' → zok (znwi h k x.toNatClampNeg x.toNatClampNeg fun _ => 0) q' := fun q' hq' => ⟨hq'.1, hq'.2.elim (fun z => Or.inl ((znw_ex (h := h) (n := x.toNatClampNeg) (sl := x.toNatClampNeg) (g := fun _ => 0) hk (by rw [h0]; decide) (by rw [h0]; decide) (fun z => absurd z (by rw [h0]; decide)) _ _).mpr (Or.inl z))) Or.inr⟩
        refine ⟨rfl, rfl, hok0, ?_⟩
        have hn0 : ¬ x < 0 := fun z => hin (Or.inl z)
        have hn1 : x.toNatClampNeg ≤ 100000 := Nat.not_lt.mp fun z => hin (Or.inr z)
        obtain ⟨C, T, N, c1, c2, c3⟩ := hF.2.2.1 idx k rfl rfl h0
        obtain ⟨C', T', N', d1, d2, -⟩ := ztg_5c h0 G.2.1
        obtain ⟨rfl, rfl, rfl⟩ : C' = C ∧ T' = T ∧ N' = N := by
          have := d1.symm.trans c1
          simp only [Option.some.injEq, Prod.mk.injEq] at this
          exact this
        refine va_newq (D := G.1) (cl := zcl) (tys := ztys G.2.1) hx hb hown c2 c3 hE.1 hP hD hS hA hn0 rfl (by omega) (by omega) (by omega) hd (fun q cA H1 hK1 hP1 hD1 hS1 => ?_)
        obtain rfl := zAC hE (t := ztix k) d2 hK1
        obtain ⟨a1, a2, a3, a4⟩ := zRelw.alloc (sl := x.toNatClampNeg) (g := fun _ => 0) (n := x.toNatClampNeg) (k := k) hw hk (by rw [h0]; decide) (by rw [h0]; decide) (fun z => absurd z (by rw [h0]; decide)) hP1 hD1 (by
          rw [zent_a5 hk h0]
          show _ = Sum.inl (_, zln (znw h k x.toNatClampNeg x.toNatClampNeg) k (zct h k), Sum.inr (Sum.inr (Sum.inr (Sum.inr fun j => (zr (znw h k x.toNatClampNeg x.toNatClampNeg) k (zct h k) j).map _))))
          rw [e5, e2]
          rfl)
        have k9 := kk _ H1 locs (cells + 1) (slots + x.toNatClampNeg) a1 hS1 a2 (fun v hv3 => (List.mem_cons.mp hv3).elim (fun z => z ▸ a4) (fun z => hoknew a3 _ (hv2 v z))) (by rw [hce1]; omega) (by rw [hce2]; omega)
        have e9 : zM (z2 ρ k (zct h k) q) (zR k (zct h k) :: st2) = .ref q :: zM ρ st2 := by
          show Value.ref (z2 ρ k (zct h k) q k (zct h k)) :: zM _ st2 = _
          rw [z2_self, a1.M hv2]
        rw [e9] at k9
        exact k9
  · rename_i idx ci k i st2
    cases hq : ztg k == 0 && zkc k == ci with
    | false => simp [hq] at hs
    | true =>
      simp only [hq, cond_true, Option.some.injEq, Prod.mk.injEq] at hs
      obtain ⟨rfl, rfl, rfl, rfl⟩ := hs
      rw [Bool.and_eq_true] at hq
      have h0 : ztg k = 0 := eq_of_beq hq.1
      have h1 : zkc k = ci := eq_of_beq hq.2
      subst h1
      obtain ⟨C, T, N, c1, c2⟩ := hF.2.2.2 idx _ rfl rfl
      obtain ⟨hk, hx1⟩ := zok_ex (hv (.inr (k, i)) (by simp)) (by rw [h0]; decide)
      have he := hw.1 k i hx1
      rw [zent_obj hk h0] at he
      refine ⟨rfl, rfl, fun q hq => hq, ?_⟩
      exact va_castS (nm := C) hx hb hown c2 (hE.1.1 _ _ c1).2 (va_recv hE.1 hP c1 he) hd (kk ρ H locs cells slots (fun _ _ _ _ => rfl) hS hR0 hv rfl rfl)
  · cases hs
end ZN
