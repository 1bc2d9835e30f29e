/-! Objects and arrays. -/
theorem zok_ex {h : zH} {k i : Nat} (hv : zokv h (.inr (k, i))) (ht : ztg k ≠ 10) : k < 1000 ∧ zex h k i := by
  obtain ⟨h1, h2⟩ := hv
  rcases h2 with h2 | h2
  · exact ⟨h1, h2⟩
  · injection h2 with e1 e2
    exact absurd (by rw [show k = zSK from e1]; rfl) ht
theorem zent_obj {dA : Nat → ClassId} {df : Nat} {ρ : Nat → Nat → Nat} {h : zH} {k i : Nat} (hk : k < 1000) (ht : ztg k = 0) : zent dA df ρ h k i = .inr (zkc k, zobj ρ h k i) := by
  unfold zent
  rw [if_neg (by omega), ht]
  rfl
theorem zobj_get {ρ : Nat → Nat → Nat} {h : zH} {k i j N : Nat} (hN : zfN[zkc k]? = some N) (hj : j < N) : (zobj ρ h k i)[j]? = some (zfv ρ h (zft (zkc k) j) k i j) := by
  unfold zobj
  rw [hN, List.getElem?_map, Option.getD_some, List.getElem?_range hj, Option.map_some]
theorem zobj_len {ρ : Nat → Nat → Nat} {h : zH} {k i N : Nat} (hN : zfN[zkc k]? = some N) : (zobj ρ h k i).length = N := by
  unfold zobj
  rw [hN, List.length_map, Option.getD_some, List.length_range]
theorem zobj_set {ρ : Nat → Nat → Nat} {h h' : zH} {k i j N : Nat} {v : Value} (hN : zfN[zkc k]? = some N) (hj : j < N) (h1 : zfv ρ h' (zft (zkc k) j) k i j = v) (h2 : ∀ j', j' ≠ j → zfv ρ h' (zft (zkc k) j') k i j' = zfv ρ h (zft (zkc k) j') k i j') : (zobj ρ h k i).set j v = zobj ρ h' k i := by
  refine List.ext_getElem? fun q => ?_
  by_cases hq : q < N
  · by_cases e : j = q
    · subst e
      rw [List.getElem?_set_self (by rw [zobj_len hN]; exact hj), zobj_get hN hj, h1]
    · rw [List.getElem?_set_ne e, zobj_get hN hq, zobj_get hN hq, h2 q (Ne.symm e)]
  · rw [List.getElem?_eq_none (by rw [List.length_set, zobj_len hN]; omega), List.getElem?_eq_none (by rw [zobj_len hN]; omega)]
/-- the same but for one name -/
def zse (h h' : zH) (k i : Nat) : Prop := zct h' = zct h ∧ zln h' = zln h ∧ zce h' = zce h ∧ zso h' = zso h ∧ ∀ k' i', ¬ (k' = k ∧ i' = i) → zi h' k' i' = zi h k' i' ∧ zr h' k' i' = zr h k' i' ∧ zd h' k' i' = zd h k' i' ∧ zl h' k' i' = zl h k' i'
theorem zu_ne {α : Type} {f : Nat → Nat → Nat → α} {k i j k' i' : Nat} {v : α} (h : ¬ (k' = k ∧ i' = i)) : zu f k i j v k' i' = f k' i' := by
  funext j'
  unfold zu
  rw [if_neg (fun e => h ⟨e.1, e.2.1⟩)]
theorem zse_i (h : zH) (k i j : Nat) (v : Int32) : zse h (zsi h k i j v) k i := ⟨rfl, rfl, rfl, rfl, fun _ _ e => ⟨zu_ne e, rfl, rfl, rfl⟩⟩
theorem zse_r (h : zH) (k i j : Nat) (v : Option (Nat × Nat)) : zse h (zsr h k i j v) k i := ⟨rfl, rfl, rfl, rfl, fun _ _ e => ⟨rfl, zu_ne e, rfl, rfl⟩⟩
theorem zse_d (h : zH) (k i j : Nat) (v : UInt64) : zse h (zsd h k i j v) k i := ⟨rfl, rfl, rfl, rfl, fun _ _ e => ⟨rfl, rfl, zu_ne e, rfl⟩⟩
theorem zse_l (h : zH) (k i j : Nat) (v : Int64) : zse h (zsl h k i j v) k i := ⟨rfl, rfl, rfl, rfl, fun _ _ e => ⟨rfl, rfl, rfl, zu_ne e⟩⟩
theorem zent_congr {dA : Nat → ClassId} {df : Nat} {ρ : Nat → Nat → Nat} {h h' : zH} {k i : Nat} (h0 : zln h' = zln h) (h1 : zi h' k i = zi h k i) (h2 : zr h' k i = zr h k i) (h3 : zd h' k i = zd h k i) (h4 : zl h' k i = zl h k i) (h5 : 1000 ≤ k → zr h' (k - 1000) i = zr h (k - 1000) i) : zent dA df ρ h' k i = zent dA df ρ h k i := by
  unfold zent
  by_cases hk : 1000 ≤ k
  · rw [if_pos hk, if_pos hk, h0, h5 hk]
  · rw [if_neg hk, if_neg hk]
    have ho : zobj ρ h' k i = zobj ρ h k i := by
      unfold zobj
      refine List.map_congr_left fun j _ => ?_
      unfold zfv
      rw [h1, h2, h3]
    rw [ho, h0, h1, h2, h3, h4]
theorem zse.ex {h h' : zH} {k i : Nat} (e : zse h h' k i) (k' i' : Nat) : zex h' k' i' ↔ zex h k' i' := by
  unfold zex
  rw [e.1, e.2.1]
theorem zse.ok {h h' : zH} {k i : Nat} (e : zse h h' k i) (q : Nat × Nat) : zok h' q ↔ zok h q := by
  unfold zok
  rw [e.ex]
theorem zse.okv {h h' : zH} {k i : Nat} (e : zse h h' k i) (v : zV) (hv : zokv h v) : zokv h' v := by
  match v, hv with
  | .inr q, hv => exact (e.ok q).mpr hv
  | .inl (.int _), _ => trivial
  | .inl (.long _), _ => trivial
  | .inl (.float _), _ => trivial
  | .inl (.double _), _ => trivial
  | .inl .null, _ => trivial
theorem zRelw.upd {G : zG} {h h' : zH} {ρ pos : Nat → Nat → Nat} {ws : va_W} {H1 : Heap} {k i : Nat} (hR : zRelw G h ρ pos ws) (hx : zex h k i)
    (hP : va_P G.1 zcl (ws.set (pos k i) (ρ k i, zent G.2.1 G.2.2.1 ρ h' k i)) H1) (hD : va_D G.2.2.2.1 (ws.set (pos k i) (ρ k i, zent G.2.1 G.2.2.1 ρ h' k i)))
    (he : ∀ k' i', zex h' k' i' ↔ zex h k' i') (hs : ∀ k' i', ¬ (k' = k ∧ i' = i) → zex h k' i' → zent G.2.1 G.2.2.1 ρ h' k' i' = zent G.2.1 G.2.2.1 ρ h k' i')
    (hr : ∀ k i j q, zr h' k i j = some q → zok h' q) (hk : ztg k ≠ 10) (hsc : ∀ k' i', ¬ (k' = k ∧ i' = i) → zln h' k' i' = zln h k' i' ∧ zi h' k' i' = zi h k' i') : zRel G h' H1 ρ := zRel.upd hR hx hP hD he hs hr hk hsc
theorem zRel.put {G : zG} {h h' : zH} {ρ pos : Nat → Nat → Nat} {ws : va_W} {H1 : Heap} {k i : Nat} (hR : zRelw G h ρ pos ws) (hx : zex h k i)
    (hP : va_P G.1 zcl (ws.set (pos k i) (ρ k i, zent G.2.1 G.2.2.1 ρ h' k i)) H1) (hD : va_D G.2.2.2.1 (ws.set (pos k i) (ρ k i, zent G.2.1 G.2.2.1 ρ h' k i)))
    (he : zse h h' k i) (hr : ∀ j q, zr h' k i j = some q → zok h q) (hk : ztg k ≠ 10) (h9 : ztg k ≠ 9) : zRel G h' H1 ρ := by
  refine zRelw.upd hR hx hP hD he.ex (fun k' i' e hx' => ?_) (fun k' i' j q hq => ?_) hk (fun k' i' e => ⟨by rw [he.2.1], (he.2.2.2.2 k' i' e).1⟩)
  · obtain ⟨e1, e2, e3, e4⟩ := he.2.2.2.2 k' i' e
    refine zent_congr he.2.1 e1 e2 e3 e4 fun hk' => (he.2.2.2.2 (k' - 1000) i' ?_).2.1
    rintro ⟨e5, -⟩
    unfold zex at hx'
    rw [if_pos hk', e5] at hx'
    exact h9 hx'.1
  · rw [he.ok]
    by_cases e : k' = k ∧ i' = i
    · obtain ⟨rfl, rfl⟩ := e
      exact hr j q hq
    · rw [(he.2.2.2.2 k' i' e).2.1] at hq
      exact hR.2.2.1 _ _ _ _ hq
theorem zu_self {α : Type} {f : Nat → Nat → Nat → α} {k i j : Nat} {v : α} : zu f k i j v k i j = v := if_pos ⟨rfl, rfl, rfl⟩
theorem zu_other {α : Type} {f : Nat → Nat → Nat → α} {k i j j' : Nat} {v : α} (h : j' ≠ j) : zu f k i j v k i j' = f k i j' := if_neg fun e => h e.2.2
theorem zfv_i {ρ : Nat → Nat → Nat} {h : zH} {t k i j j' : Nat} {v : Int32} (hj : j' ≠ j) : zfv ρ (zsi h k i j v) t k i j' = zfv ρ h t k i j' := by
  have e : zi (zsi h k i j v) k i j' = zi h k i j' := zu_other hj
  unfold zfv
  split
  · rw [e]
  · rw [e]
  · rfl
  · rfl
theorem zfv_r {ρ : Nat → Nat → Nat} {h : zH} {t k i j j' : Nat} {v : Option (Nat × Nat)} (hj : j' ≠ j) : zfv ρ (zsr h k i j v) t k i j' = zfv ρ h t k i j' := by
  have e : zr (zsr h k i j v) k i j' = zr h k i j' := zu_other hj
  unfold zfv
  split
  · rfl
  · rfl
  · rfl
  · rw [e]
theorem zfv_d {ρ : Nat → Nat → Nat} {h : zH} {t k i j j' : Nat} {v : UInt64} (hj : j' ≠ j) : zfv ρ (zsd h k i j v) t k i j' = zfv ρ h t k i j' := by
  have e : zd (zsd h k i j v) k i j' = zd h k i j' := zu_other hj
  unfold zfv
  split
  · rfl
  · rfl
  · rw [e]
  · rfl
section ZO
variable {p : Program} {l : Launch} {e : Env} {R : Room} {s : State} {m : MethodId} {args : Array Value} {below : List Frame} {meth : Method} {c : Code} {H : Heap} {locs : List Loc} {cells slots : Nat} {Q : State → Prop}
variable {cc : ByteArray} {b nL : Nat} {ls : Array Slot} {ρ : Nat → Nat → Nat} {G : zG}
/-- what a field's instruction needs of the tables -/
def zFldF (own : String) (args : Array Value) (s : State) (idx : Nat) (a : List Nat) : Prop := ∃ ci j, ∃ (C : String) (T : u_T) (N : Nat), a = [ci, j, zft ci j] ∧ ci < 13 ∧ zcl[ci]? = some (C, T, N) ∧ j < N ∧ (Cond.fieldLink own idx C (T j).2.1 (T j).2.2.1).before args s = true
theorem zs_get (hx : p.tables.exec = Jvm.exec) (hb : c.code = cc) {own : String} (hown : s.vm.findClass own = some m.cls) (hts : ∀ w ∈ zTs, w.before args s = true) (hE : zEnv G s) {idx : Nat} {a : List Nat} {pc pc' : Nat} {L L' : zLs} {st st' : List zV} {h h' : zH}
    (hs : zsFld (.getfield idx) a pc L st h = some (pc', L', st', h')) (hd : decode cc b = .ok (.getfield idx, 3)) (hF : zFldF own args s idx a) (hR : zRel G h H ρ) (hv : ∀ v ∈ st, zokv h v)
    (kk : (∀ v ∈ st', zokv h v) → W p l e R s m args below meth c H locs cells slots Q (F0 m (b + 3) ls (zM ρ st'))) :
    pc' = pc + 1 ∧ L' = L ∧ h' = h ∧ W p l e R s m args below meth c H locs cells slots Q (F0 m b ls (zM ρ st)) := by
  obtain ⟨ci, j, C, T, N, rfl, hci, hc, hj, hl⟩ := hF
  match st, hs, hv with
  | .inr (k, i) :: st2, hs, hv =>
    cases hq : ztg k == 0 && zkc k == ci with
    | false => simp [zsFld, hq] at hs
    | true =>
      simp only [zsFld, hq, cond_true] at hs
      rw [Bool.and_eq_true] at hq
      have h0 : ztg k = 0 := eq_of_beq hq.1
      have h1 : zkc k = ci := eq_of_beq hq.2
      subst h1
      obtain ⟨hk, hx1⟩ := zok_ex (hv _ List.mem_cons_self) (by rw [h0]; decide)
      obtain ⟨ws, pos, hP, hD, hw⟩ := hR
      have he := hw.1 k i hx1
      rw [zent_obj hk h0] at he
      obtain ⟨C', T', N', ty0, g1, g2, g3, g4, g5, g6⟩ := zcl_ok _ hci
      obtain ⟨rfl, rfl, rfl⟩ : C' = C ∧ T' = T ∧ N' = N := by
        have := g1.symm.trans hc
        simp only [Option.some.injEq, Prod.mk.injEq] at this
        exact this
      have hvv := zobj_get (ρ := ρ) (h := h) (i := i) g2 hj
      have hl' := hl
      rw [← (g6 j hj).1] at hl'
      have row : ∀ v : zV, ztv ρ v = zfv ρ h (zft (zkc k) j) k i j → zokv h v → pc' = pc + 1 ∧ L' = L ∧ st' = v :: st2 ∧ h' = h → pc' = pc + 1 ∧ L' = L ∧ h' = h ∧ W p l e R s m args below meth c H locs cells slots Q (F0 m b ls (zM ρ (.inr (k, i) :: st2))) := by
        rintro v e1 e2 ⟨rfl, rfl, rfl, rfl⟩
        refine ⟨rfl, rfl, rfl, va_get (D := G.1) (cl := zcl) (tys := ztys G.2.1) (ci := zkc k) hx hb hts g5 hown hE.1 hP (pos k i) he hc j hj hl' (fun _ z => z) hvv hd ?_⟩
        rw [← e1]
        exact kk fun w hw2 => (List.mem_cons.mp hw2).elim (fun z => z ▸ e2) (fun z => hv w (List.mem_cons_of_mem _ z))
      have ht := (g6 j hj).2.2.2.2.2
      generalize hzt : zft (zkc k) j = t at hs row ht
      match t, hs, row, ht with
      | 0, hs, row, _ =>
        simp only [Option.some.injEq, Prod.mk.injEq] at hs
        exact row (zI (zi h k i j)) rfl trivial ⟨hs.1.symm, hs.2.1.symm, hs.2.2.1.symm, hs.2.2.2.symm⟩
      | 1, hs, row, _ =>
        simp only [Option.some.injEq, Prod.mk.injEq] at hs
        exact row (zI (zi h k i j)) rfl trivial ⟨hs.1.symm, hs.2.1.symm, hs.2.2.1.symm, hs.2.2.2.symm⟩
      | 2, hs, row, _ =>
        simp only [Option.some.injEq, Prod.mk.injEq] at hs
        exact row (zD (zd h k i j)) rfl trivial ⟨hs.1.symm, hs.2.1.symm, hs.2.2.1.symm, hs.2.2.2.symm⟩
      | 3, hs, row, _ =>
        simp only [Option.some.injEq, Prod.mk.injEq] at hs
        refine row (zrv (zr h k i j)) rfl ?_ ⟨hs.1.symm, hs.2.1.symm, hs.2.2.1.symm, hs.2.2.2.symm⟩
        cases hz : zr h k i j with
        | none => trivial
        | some q => exact hw.2.2.1 _ _ _ _ hz
      | t + 4, _, _, ht => omega
  | [], hs, _ => cases hs
  | .inl _ :: _, hs, _ => cases hs
theorem zs_put (hx : p.tables.exec = Jvm.exec) (hb : c.code = cc) {own : String} (hown : s.vm.findClass own = some m.cls) (hts : ∀ w ∈ zTs, w.before args s = true) (hE : zEnv G s) {idx : Nat} {a : List Nat} {pc pc' : Nat} {L L' : zLs} {st st' : List zV} {h h' : zH}
    (hs : zsFld (.putfield idx) a pc L st h = some (pc', L', st', h')) (hd : decode cc b = .ok (.putfield idx, 3)) (hF : zFldF own args s idx a)
    (hfin : ∀ ci j t, a = [ci, j, t] → ∀ (C : String) (T : u_T) (N : Nat), zcl[ci]? = some (C, T, N) → (T j).2.2.2 = false ∨ ((T j).2.2.2 = true ∧ meth.name = "<init>" ∧ C = own))
    (hS : va_S G.2.2.2.1 s.heap H locs) (hR : zRel G h H ρ) (hv : ∀ v ∈ st, zokv h v)
    (kk : ∀ H1 locs1, va_S G.2.2.2.1 s.heap H1 locs1 → zRel G h' H1 ρ → (∀ v ∈ st', zokv h' v) → W p l e R s m args below meth c H1 locs1 cells slots Q (F0 m (b + 3) ls (zM ρ st'))) :
    pc' = pc + 1 ∧ L' = L ∧ (∃ k i, zse h h' k i) ∧ W p l e R s m args below meth c H locs cells slots Q (F0 m b ls (zM ρ st)) := by
  obtain ⟨ci, j, C, T, N, rfl, hci, hc, hj, hl⟩ := hF
  match st, hs, hv with
  | v :: .inr (k, i) :: st2, hs, hv =>
    cases hq : ztg k == 0 && zkc k == ci with
    | false => simp [zsFld, hq] at hs
    | true =>
      simp only [zsFld, hq, cond_true] at hs
      rw [Bool.and_eq_true] at hq
      have h0 : ztg k = 0 := eq_of_beq hq.1
      have h1 : zkc k = ci := eq_of_beq hq.2
      subst h1
      obtain ⟨hk, hx1⟩ := zok_ex (hv _ (List.mem_cons_of_mem _ List.mem_cons_self)) (by rw [h0]; decide)
      obtain ⟨ws, pos, hP, hD, hw⟩ := hR
      have he := hw.1 k i hx1
      rw [zent_obj hk h0] at he
      obtain ⟨C', T', N', ty0, g1, g2, g3, g4, g5, g6⟩ := zcl_ok _ hci
      obtain ⟨rfl, rfl, rfl⟩ : C' = C ∧ T' = T ∧ N' = N := by
        have := g1.symm.trans hc
        simp only [Option.some.injEq, Prod.mk.injEq] at this
        exact this
      have hl' := hl
      rw [← (g6 j hj).1] at hl'
      have row : ∀ h2 : zH, zse h h2 k i → zfv ρ h2 (zft (zkc k) j) k i j = ztv ρ v → (∀ t j', j' ≠ j → zfv ρ h2 t k i j' = zfv ρ h t k i j') → (∀ j q, zr h2 k i j = some q → zok h q) → narrow (ty0 j) (ztv ρ v) = ztv ρ v → fits (ty0 j) (ztv ρ v) = true →
          pc' = pc + 1 ∧ L' = L ∧ st' = st2 ∧ h' = h2 → pc' = pc + 1 ∧ L' = L ∧ (∃ k i, zse h h' k i) ∧ W p l e R s m args below meth c H locs cells slots Q (F0 m b ls (zM ρ (v :: .inr (k, i) :: st2))) := by
        rintro h2 q1 q2 q3 q4 q5 q6 ⟨rfl, rfl, rfl, rfl⟩
        have fin : ∀ (H1 : Heap) (locs1 : List Loc), va_P G.1 zcl (ws.set (pos k i) (ρ k i, .inr (zkc k, (zobj ρ h k i).set j (ztv ρ v)))) H1 → va_D G.2.2.2.1 (ws.set (pos k i) (ρ k i, .inr (zkc k, (zobj ρ h k i).set j (ztv ρ v)))) → va_S G.2.2.2.1 s.heap H1 locs1 → W p l e R s m args below meth c H1 locs1 cells slots Q (F0 m (b + 3) ls (zM ρ st')) := by
          intro H1 locs1 hP1 hD1 hS1
          rw [zobj_set g2 hj q2 (fun j' hj' => q3 _ j' hj'), ← zent_obj (dA := G.2.1) (df := G.2.2.1) hk h0] at hP1 hD1
          exact kk H1 locs1 hS1 (zRel.put hw hx1 hP1 hD1 q1 q4 (by rw [h0]; decide) (by rw [h0]; decide)) fun w hw2 => q1.okv w (hv w (List.mem_cons_of_mem _ (List.mem_cons_of_mem _ hw2)))
        refine ⟨rfl, rfl, ⟨k, i, q1⟩, ?_⟩
        rcases hfin _ _ _ rfl _ _ _ hc with f1 | ⟨f1, f2, f3⟩
        · exact va_put (D := G.1) (cl := zcl) (tys := ztys G.2.1) (ci := zkc k) (v := ztv ρ v) hx hb hts g5 ty0 g3 g4 hown hE.1 hP hD hS (pos k i) he hc j hj hl' (fun _ z => z) f1 (g3 j hj) q5 q6 (by rw [zobj_len g2]; exact hj) hd fin
        · exact va_putF (D := G.1) (cl := zcl) (tys := ztys G.2.1) (ci := zkc k) (v := ztv ρ v) hx hb hts g5 ty0 g3 g4 hown hE.1 hP hD hS (pos k i) he hc j hj hl' (fun _ z => z) f1 f2 (by rw [(g6 j hj).1]; exact f3) (g3 j hj) q5 q6 (by rw [zobj_len g2]; exact hj) hd fin
      have hval : ∀ j q, zr h k i j = some q → zok h q := fun j q hz => hw.2.2.1 _ _ _ _ hz
      obtain ⟨-, t0, t1, t2, t3, -⟩ := g6 j hj
      generalize hzt : zft (zkc k) j = t at hs row t0 t1 t2 t3
      match t, v, hs, row, t0, t1, t2, t3, hv with
      | 0, .inl (.int x), hs, row, t0, _, _, _, _ =>
        simp only [Option.some.injEq, Prod.mk.injEq] at hs
        exact row _ (zse_i h k i j x) (by show Value.int (zi (zsi h k i j x) k i j) = _; rw [show zi (zsi h k i j x) k i j = x from zu_self]; rfl) (fun t j' hj' => zfv_i hj') hval (by rw [t0 rfl]; rfl) (by rw [t0 rfl]; rfl) ⟨hs.1.symm, hs.2.1.symm, hs.2.2.1.symm, hs.2.2.2.symm⟩
      | 1, .inl (.int x), hs, row, _, t1, _, _, _ =>
        by_cases h01 : x = 0 ∨ x = 1
        · simp only [if_pos h01, Option.some.injEq, Prod.mk.injEq] at hs
          refine row _ (zse_i h k i j x) (by show Value.int (zi (zsi h k i j x) k i j) = _; rw [show zi (zsi h k i j x) k i j = x from zu_self]; rfl) (fun t j' hj' => zfv_i hj') hval ?_ ?_ ⟨hs.1.symm, hs.2.1.symm, hs.2.2.1.symm, hs.2.2.2.symm⟩
          · rw [t1 rfl]
            rcases h01 with rfl | rfl <;> rfl
          · rw [t1 rfl]
            rcases h01 with rfl | rfl <;> rfl
        · simp only [if_neg h01] at hs
          cases hs
      | 2, .inl (.double x), hs, row, _, _, t2, _, _ =>
        simp only [Option.some.injEq, Prod.mk.injEq] at hs
        exact row _ (zse_d h k i j x) (by show Value.double (zd (zsd h k i j x) k i j) = _; rw [show zd (zsd h k i j x) k i j = x from zu_self]; rfl) (fun t j' hj' => zfv_d hj') hval (by rw [t2 rfl]; rfl) (by rw [t2 rfl]; rfl) ⟨hs.1.symm, hs.2.1.symm, hs.2.2.1.symm, hs.2.2.2.symm⟩
      | 3, .inr q, hs, row, _, _, _, t3, hv =>
        simp only [Option.some.injEq, Prod.mk.injEq] at hs
        refine row _ (zse_r h k i j (some q)) (by show ztv ρ (zrv (zr (zsr h k i j (some q)) k i j)) = _; rw [show zr (zsr h k i j (some q)) k i j = some q from zu_self]; rfl) (fun t j' hj' => zfv_r hj') (fun j' q' hz => ?_) ?_ ?_ ⟨hs.1.symm, hs.2.1.symm, hs.2.2.1.symm, hs.2.2.2.symm⟩
        · by_cases ej : j' = j
          · subst ej
            rw [show zr (zsr h k i j' (some q)) k i j' = some q from zu_self] at hz
            cases hz
            exact hv _ List.mem_cons_self
          · rw [show zr (zsr h k i j (some q)) k i j' = zr h k i j' from zu_other ej] at hz
            exact hval _ _ hz
        · rcases t3 rfl with ⟨n, e3⟩ | ⟨n, e3⟩ <;> rw [e3] <;> rfl
        · rcases t3 rfl with ⟨n, e3⟩ | ⟨n, e3⟩ <;> rw [e3] <;> rfl
      | 3, .inl .null, hs, row, _, _, _, t3, hv =>
        simp only [Option.some.injEq, Prod.mk.injEq] at hs
        refine row _ (zse_r h k i j none) (by show ztv ρ (zrv (zr (zsr h k i j none) k i j)) = _; rw [show zr (zsr h k i j none) k i j = none from zu_self]; rfl) (fun t j' hj' => zfv_r hj') (fun j' q' hz => ?_) ?_ ?_ ⟨hs.1.symm, hs.2.1.symm, hs.2.2.1.symm, hs.2.2.2.symm⟩
        · by_cases ej : j' = j
          · subst ej
            rw [show zr (zsr h k i j' none) k i j' = none from zu_self] at hz
            cases hz
          · rw [show zr (zsr h k i j none) k i j' = zr h k i j' from zu_other ej] at hz
            exact hval _ _ hz
        · rcases t3 rfl with ⟨n, e3⟩ | ⟨n, e3⟩ <;> rw [e3] <;> rfl
        · rcases t3 rfl with ⟨n, e3⟩ | ⟨n, e3⟩ <;> rw [e3] <;> rfl
  | [], hs, _ => cases hs
  | [_], hs, _ => cases hs
  | _ :: .inl _ :: _, hs, _ => cases hs
end ZO
