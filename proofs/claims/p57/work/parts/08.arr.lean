/-! Arrays. -/
theorem zent_a1 {dA : Nat → ClassId} {df : Nat} {ρ : Nat → Nat → Nat} {h : zH} {k i : Nat} (hk : k < 1000) (ht : ztg k = 1) : zent dA df ρ h k i = .inl (dA 0, (zln h k i, .inl (zi h k i))) := by
  unfold zent
  rw [if_neg (by omega), ht]
  rfl
theorem zent_a2 {dA : Nat → ClassId} {df : Nat} {ρ : Nat → Nat → Nat} {h : zH} {k i : Nat} (hk : k < 1000) (ht : ztg k = 2) : zent dA df ρ h k i = .inl (dA 1, (zln h k i, .inl (zi h k i))) := by
  unfold zent
  rw [if_neg (by omega), ht]
  rfl
theorem zent_a3 {dA : Nat → ClassId} {df : Nat} {ρ : Nat → Nat → Nat} {h : zH} {k i : Nat} (hk : k < 1000) (ht : ztg k = 3) : zent dA df ρ h k i = .inl (dA 2, (zln h k i, .inr (.inl (zl h k i)))) := by
  unfold zent
  rw [if_neg (by omega), ht]
  rfl
theorem zent_a4 {dA : Nat → ClassId} {df : Nat} {ρ : Nat → Nat → Nat} {h : zH} {k i : Nat} (hk : k < 1000) (ht : ztg k = 4) : zent dA df ρ h k i = .inl (dA 3, (zln h k i, .inr (.inr (.inr (.inl (zd h k i)))))) := by
  unfold zent
  rw [if_neg (by omega), ht]
  rfl
theorem zent_a5 {dA : Nat → ClassId} {df : Nat} {ρ : Nat → Nat → Nat} {h : zH} {k i : Nat} (hk : k < 1000) (ht : ztg k = 5) : zent dA df ρ h k i = .inl (dA (ztix k), (zln h k i, .inr (.inr (.inr (.inr (fun j => (zr h k i j).map (fun q => ρ q.1 q.2))))))) := by
  unfold zent
  rw [if_neg (by omega), ht]
  rfl
theorem ztg_5 {k : Nat} (h : ztg k = 5) : k = 26 ∨ k = 27 ∨ k = 29 ∨ k = 33 ∨ k = 34 := by
  by_cases hk : k < 41
  · have h9 : ∀ k, k < 41 → ztg k = 5 → k = 26 ∨ k = 27 ∨ k = 29 ∨ k = 33 ∨ k = 34 := by decide
    exact h9 k hk h
  · exfalso
    unfold ztg at h
    have e : zkT[k]? = none := List.getElem?_eq_none (by show 41 ≤ k; omega)
    rw [e] at h
    revert h
    generalize Nat.ble 100 k = a
    generalize Nat.ble 200 k = b
    generalize Nat.ble 300 k = c
    cases a <;> cases b <;> cases c <;> simp
theorem ztg_5c {k : Nat} (h : ztg k = 5) (dA : Nat → ClassId) : ∃ (C : String) (T : u_T) (N : Nat), zcl[zkc k]? = some (C, T, N) ∧ (ztys dA)[ztix k]? = some (dA (ztix k), .object C) ∧ zkc k < 13 := by
  rcases ztg_5 h with rfl | rfl | rfl | rfl | rfl <;> exact ⟨_, _, _, rfl, rfl, by decide⟩
theorem vp_in_of2 {x : Int32} {n : Nat} (h : ¬ (x < 0 ∨ n ≤ x.toNatClampNeg)) : vp_in x n := h
section ZA
variable {p : Program} {l : Launch} {e : Env} {R : Room} {s : State} {m : MethodId} {args : Array Value} {below : List Frame} {meth : Method} {c : Code} {H : Heap} {locs : List Loc} {cells slots : Nat} {Q : State → Prop}
variable {cc : ByteArray} {b nL : Nat} {ls : Array Slot} {ρ : Nat → Nat → Nat} {G : zG}
theorem zs_arr (hx : p.tables.exec = Jvm.exec) (hb : c.code = cc) (hE : zEnv G s) {o : Instr} {pc pc' : Nat} {L L' : zLs} {st st' : List zV} {h h' : zH}
    (hs : zsArr o pc L st h = some (pc', L', st', h')) (hd : decode cc b = .ok (o, zlen o))
    (hS : va_S G.2.2.2.1 s.heap H locs) (hR : zRel G h H ρ) (hv : ∀ v ∈ st, zokv h v)
    (kk : ∀ H1 locs1, va_S G.2.2.2.1 s.heap H1 locs1 → zRel G h' H1 ρ → (∀ v ∈ st', zokv h' v) → W p l e R s m args below meth c H1 locs1 cells slots Q (F0 m (b + zlen o) ls (zM ρ st'))) :
    pc' = pc + 1 ∧ L' = L ∧ (h' = h ∨ ∃ k i, zse h h' k i) ∧ W p l e R s m args below meth c H locs cells slots Q (F0 m b ls (zM ρ st)) := by
  have hR0 := hR
  obtain ⟨ws, pos, hP, hD, hw⟩ := hR
  have hval : ∀ k i j q, zr h k i j = some q → zok h q := hw.2.2.1
  unfold zsArr at hs
  split at hs
  · rename_i x k i st2
    cases hq : ztg k == 1 || ztg k == 10 with
    | false => simp [hq] at hs
    | true =>
      simp only [hq, cond_true] at hs
      split at hs
      · cases hs
      · rename_i hin
        simp only [Option.some.injEq, Prod.mk.injEq] at hs
        obtain ⟨rfl, rfl, rfl, rfl⟩ := hs
        have kk2 := kk H locs hS hR0 fun w hw2 => (List.mem_cons.mp hw2).elim (fun z => z ▸ trivial) (fun z => hv w (by simp [z]))
        by_cases h0 : ztg k = 1
        · obtain ⟨hk, hx1⟩ := zok_ex (hv (.inr (k, i)) (by simp)) (by rw [h0]; decide)
          have he := hw.1 k i hx1
          rw [zent_a1 hk h0] at he
          exact ⟨rfl, rfl, Or.inl rfl, va_iald (D := G.1) (cl := zcl) (tys := ztys G.2.1) hx hb hE.1 hP (pos k i) 0 he rfl hin hd kk2⟩
        · have h10 : ztg k = 10 := by
            rw [Bool.or_eq_true] at hq
            rcases hq with hq | hq
            · exact absurd (eq_of_beq hq) h0
            · exact eq_of_beq hq
          have h1 := hv (.inr (k, i)) (by simp)
          obtain ⟨hk, h2⟩ := h1
          rcases h2 with h2 | h2
          · exact absurd h10 (((zex_lt hk).mp h2).1)
          · injection h2 with e1 e2
            have e1 : k = zSK := e1
            have e2 : i = 0 := e2
            subst e1 e2
            obtain ⟨-, -, -, r4, r5, r6⟩ := hw
            rw [r5] at hin
            have hlt : x.toNatClampNeg < G.2.2.2.2.2.1 := Nat.not_le.mp fun q => hin (Or.inr q)
            obtain ⟨-, hX, hbl, hbA, -⟩ := hE
            refine ⟨rfl, rfl, Or.inl rfl, ?_⟩
            show W p l e R s m args below meth c H locs cells slots Q (F0 m b ls (.int x :: .ref (ρ zSK 0) :: zM ρ st2))
            rw [r4]
            refine va_sld hx hb hX hbl hbA hS hin hd ?_
            rw [← r6 _ hlt]
            exact kk2
  · rename_i x k i st2
    cases hq : ztg k == 2 with
    | false => simp [hq] at hs
    | true =>
      simp only [hq, cond_true] at hs
      have h0 : ztg k = 2 := eq_of_beq hq
      split at hs
      · cases hs
      · rename_i hin
        simp only [Option.some.injEq, Prod.mk.injEq] at hs
        obtain ⟨rfl, rfl, rfl, rfl⟩ := hs
        obtain ⟨hk, hx1⟩ := zok_ex (hv (.inr (k, i)) (by simp)) (by rw [h0]; decide)
        have he := hw.1 k i hx1
        rw [zent_a2 hk h0] at he
        exact ⟨rfl, rfl, Or.inl rfl, va_zald (D := G.1) (cl := zcl) (tys := ztys G.2.1) hx hb hE.1 hP (pos k i) 1 he rfl hin hd (kk H locs hS hR0 fun w hw2 => (List.mem_cons.mp hw2).elim (fun z => z ▸ trivial) (fun z => hv w (by simp [z])))⟩
  · rename_i x k i st2
    cases hq : ztg k == 3 with
    | false => simp [hq] at hs
    | true =>
      simp only [hq, cond_true] at hs
      have h0 : ztg k = 3 := eq_of_beq hq
      exact absurd h0 (ztg_34 k).1
  · rename_i x k i st2
    cases hq : ztg k == 4 with
    | false => simp [hq] at hs
    | true =>
      simp only [hq, cond_true] at hs
      have h0 : ztg k = 4 := eq_of_beq hq
      exact absurd h0 (ztg_34 k).2
  · rename_i x k i st2
    cases hq : ztg k == 5 with
    | false => simp [hq] at hs
    | true =>
      simp only [hq, cond_true] at hs
      have h0 : ztg k = 5 := eq_of_beq hq
      split at hs
      · cases hs
      · rename_i hin
        simp only [Option.some.injEq, Prod.mk.injEq] at hs
        obtain ⟨rfl, rfl, rfl, rfl⟩ := hs
        obtain ⟨hk, hx1⟩ := zok_ex (hv (.inr (k, i)) (by simp)) (by rw [h0]; decide)
        have he := hw.1 k i hx1
        rw [zent_a5 hk h0] at he
        obtain ⟨C, T, N, c1, c2, -⟩ := ztg_5c h0 G.2.1
        refine ⟨rfl, rfl, Or.inl rfl, va_aldq (D := G.1) (cl := zcl) (tys := ztys G.2.1) hx hb hE.1 hP (pos k i) (ztix k) he c2 hin hd ?_⟩
        have e1 : va_rf ((zr h k i x.toNatClampNeg).map fun q => ρ q.1 q.2) = ztv ρ (zrv (zr h k i x.toNatClampNeg)) := by cases zr h k i x.toNatClampNeg <;> rfl
        rw [e1]
        refine kk H locs hS hR0 fun w hw2 => (List.mem_cons.mp hw2).elim (fun z => ?_) (fun z => hv w (by simp [z]))
        subst z
        cases hz : zr h k i x.toNatClampNeg with
        | none => trivial
        | some q => exact hval _ _ _ _ hz
  · rename_i y x k i st2
    cases hq : ztg k == 1 with
    | false => simp [hq] at hs
    | true =>
      simp only [hq, cond_true] at hs
      have h0 : ztg k = 1 := eq_of_beq hq
      split at hs
      · cases hs
      · rename_i hin
        simp only [Option.some.injEq, Prod.mk.injEq] at hs
        obtain ⟨rfl, rfl, rfl, rfl⟩ := hs
        obtain ⟨hk, hx1⟩ := zok_ex (hv (.inr (k, i)) (by simp)) (by rw [h0]; decide)
        have he := hw.1 k i hx1
        rw [zent_a1 hk h0] at he
        refine ⟨rfl, rfl, Or.inr ⟨k, i, zse_i h k i x.toNatClampNeg y⟩, va_iast (D := G.1) (cl := zcl) (tys := ztys G.2.1) hx hb hE.1 hP hD hS (pos k i) 0 he rfl hin hd fun H1 locs1 hP1 hD1 hS1 => ?_⟩
        have ef : upd (zi h k i) x.toNatClampNeg y = zi (zsi h k i x.toNatClampNeg y) k i := by
          funext j
          show _ = zu _ _ _ _ _ _ _ _
          unfold upd zu
          by_cases ej : j = x.toNatClampNeg
          · rw [if_pos ej, if_pos ⟨rfl, rfl, ej⟩]
          · rw [if_neg ej, if_neg (fun z => ej z.2.2)]
            rfl
        rw [ef] at hP1 hD1
        have ez := zent_a1 (dA := G.2.1) (df := G.2.2.1) (ρ := ρ) (h := zsi h k i x.toNatClampNeg y) (i := i) hk h0
        rw [show zln (zsi h k i x.toNatClampNeg y) k i = zln h k i from rfl] at ez
        rw [← ez] at hP1 hD1
        exact kk H1 locs1 hS1 (zRel.put hw hx1 hP1 hD1 (zse_i h k i _ y) (fun j q hz => hval _ _ _ _ hz) (by rw [h0]; decide) (by rw [h0]; decide)) fun w hw2 => (zse_i h k i _ y).okv w (hv w (by simp [hw2]))
  · rename_i y x k i st2
    cases hq : ztg k == 2 with
    | false => simp [hq] at hs
    | true =>
      simp only [hq, cond_true] at hs
      have h0 : ztg k = 2 := eq_of_beq hq
      split at hs
      · cases hs
      · rename_i hin
        split at hs
        · rename_i h01
          simp only [Option.some.injEq, Prod.mk.injEq] at hs
          obtain ⟨rfl, rfl, rfl, rfl⟩ := hs
          obtain ⟨hk, hx1⟩ := zok_ex (hv (.inr (k, i)) (by simp)) (by rw [h0]; decide)
          have he := hw.1 k i hx1
          rw [zent_a2 hk h0] at he
          refine ⟨rfl, rfl, Or.inr ⟨k, i, zse_i h k i x.toNatClampNeg y⟩, va_zast (D := G.1) (cl := zcl) (tys := ztys G.2.1) hx hb hE.1 hP hD hS (pos k i) 1 he rfl hin hd fun H1 locs1 hP1 hD1 hS1 => ?_⟩
          have e01 : vp_nar .boolean y = y := by
            rcases h01 with rfl | rfl <;> rfl
          rw [e01] at hP1 hD1
          have ef : upd (zi h k i) x.toNatClampNeg y = zi (zsi h k i x.toNatClampNeg y) k i := by
            funext j
            show _ = zu _ _ _ _ _ _ _ _
            unfold upd zu
            by_cases ej : j = x.toNatClampNeg
            · rw [if_pos ej, if_pos ⟨rfl, rfl, ej⟩]
            · rw [if_neg ej, if_neg (fun z => ej z.2.2)]
              rfl
          rw [ef] at hP1 hD1
          have ez := zent_a2 (dA := G.2.1) (df := G.2.2.1) (ρ := ρ) (h := zsi h k i x.toNatClampNeg y) (i := i) hk h0
          rw [show zln (zsi h k i x.toNatClampNeg y) k i = zln h k i from rfl] at ez
          rw [← ez] at hP1 hD1
          exact kk H1 locs1 hS1 (zRel.put hw hx1 hP1 hD1 (zse_i h k i _ y) (fun j q hz => hval _ _ _ _ hz) (by rw [h0]; decide) (by rw [h0]; decide)) fun w hw2 => (zse_i h k i _ y).okv w (hv w (by simp [hw2]))
        · cases hs
  · rename_i y x k i st2
    cases hq : ztg k == 3 with
    | false => simp [hq] at hs
    | true =>
      simp only [hq, cond_true] at hs
      have h0 : ztg k = 3 := eq_of_beq hq
      exact absurd h0 (ztg_34 k).1
  · rename_i y x k i st2
    cases hq : ztg k == 4 with
    | false => simp [hq] at hs
    | true =>
      simp only [hq, cond_true] at hs
      have h0 : ztg k = 4 := eq_of_beq hq
      exact absurd h0 (ztg_34 k).2
  · rename_i x k i st2
    cases hq : ztg k == 5 with
    | false => simp [hq] at hs
    | true =>
      simp only [hq, cond_true] at hs
      have h0 : ztg k = 5 := eq_of_beq hq
      split at hs
      · cases hs
      · rename_i hin
        simp only [Option.some.injEq, Prod.mk.injEq] at hs
        obtain ⟨rfl, rfl, rfl, rfl⟩ := hs
        obtain ⟨hk, hx1⟩ := zok_ex (hv (.inr (k, i)) (by simp)) (by rw [h0]; decide)
        have he := hw.1 k i hx1
        rw [zent_a5 hk h0] at he
        obtain ⟨C, T, N, c1, c2, -⟩ := ztg_5c h0 G.2.1
        refine ⟨rfl, rfl, Or.inr ⟨k, i, zse_r h k i x.toNatClampNeg none⟩, va_astqN (C := C) (D := G.1) (cl := zcl) (tys := ztys G.2.1) hx hb hE.1 hP hD hS (pos k i) (ztix k) he c2 hin hd fun H1 locs1 hP1 hD1 hS1 => ?_⟩
        have ef : va_up (fun j => (zr h k i j).map (fun q => ρ q.1 q.2)) x.toNatClampNeg none = fun j => (zr (zsr h k i x.toNatClampNeg none) k i j).map (fun q => ρ q.1 q.2) := by
          funext j
          show _ = Option.map _ (zu _ _ _ _ _ _ _ _)
          unfold va_up zu
          by_cases ej : j = x.toNatClampNeg
          · rw [if_pos ej, if_pos ⟨rfl, rfl, ej⟩]
            rfl
          · rw [if_neg ej, if_neg (fun z => ej z.2.2)]
            rfl
        rw [ef] at hP1 hD1
        have ez := zent_a5 (dA := G.2.1) (df := G.2.2.1) (ρ := ρ) (h := zsr h k i x.toNatClampNeg none) (i := i) hk h0
        rw [show zln (zsr h k i x.toNatClampNeg none) k i = zln h k i from rfl] at ez
        rw [← ez] at hP1 hD1
        refine kk H1 locs1 hS1 (zRel.put hw hx1 hP1 hD1 (zse_r h k i _ none) (fun j q hz => ?_) (by rw [h0]; decide) (by rw [h0]; decide)) fun w hw2 => (zse_r h k i _ none).okv w (hv w (by simp [hw2]))
        by_cases ej : j = x.toNatClampNeg
        · subst ej
          rw [show zr (zsr h k i x.toNatClampNeg none) k i x.toNatClampNeg = none from zu_self] at hz
          cases hz
        · rw [show zr (zsr h k i x.toNatClampNeg none) k i j = zr h k i j from zu_other ej] at hz
          exact hval _ _ _ _ hz
  · rename_i k2 i2 x k i st2
    cases hq : ztg k == 5 && ztg k2 == 0 && zkc k == zkc k2 with
    | false => simp [hq] at hs
    | true =>
      simp only [hq, cond_true] at hs
      rw [Bool.and_eq_true, Bool.and_eq_true] at hq
      have h0 : ztg k = 5 := eq_of_beq hq.1.1
      have h02 : ztg k2 = 0 := eq_of_beq hq.1.2
      have hkc : zkc k = zkc k2 := eq_of_beq hq.2
      split at hs
      · cases hs
      · rename_i hin
        simp only [Option.some.injEq, Prod.mk.injEq] at hs
        obtain ⟨rfl, rfl, rfl, rfl⟩ := hs
        obtain ⟨hk, hx1⟩ := zok_ex (hv (.inr (k, i)) (by simp)) (by rw [h0]; decide)
        have he := hw.1 k i hx1
        rw [zent_a5 hk h0] at he
        obtain ⟨C, T, N, c1, c2, -⟩ := ztg_5c h0 G.2.1
        obtain ⟨hk2, hx2⟩ := zok_ex (hv (.inr (k2, i2)) (by simp)) (by rw [h02]; decide)
        have he2 := hw.1 k2 i2 hx2
        rw [zent_obj hk2 h02, ← hkc] at he2
        refine ⟨rfl, rfl, Or.inr ⟨k, i, zse_r h k i x.toNatClampNeg (some (k2, i2))⟩, va_astq (D := G.1) (cl := zcl) (tys := ztys G.2.1) hx hb hE.1 hP hD hS (pos k i) (ztix k) (pos k2 i2) (zkc k) he c2 he2 c1 hin hd fun H1 locs1 hP1 hD1 hS1 => ?_⟩
        have ef : va_up (fun j => (zr h k i j).map (fun q => ρ q.1 q.2)) x.toNatClampNeg (some (ρ k2 i2)) = fun j => (zr (zsr h k i x.toNatClampNeg (some (k2, i2))) k i j).map (fun q => ρ q.1 q.2) := by
          funext j
          show _ = Option.map _ (zu _ _ _ _ _ _ _ _)
          unfold va_up zu
          by_cases ej : j = x.toNatClampNeg
          · rw [if_pos ej, if_pos ⟨rfl, rfl, ej⟩]
            rfl
          · rw [if_neg ej, if_neg (fun z => ej z.2.2)]
            rfl
        rw [ef] at hP1 hD1
        have ez := zent_a5 (dA := G.2.1) (df := G.2.2.1) (ρ := ρ) (h := zsr h k i x.toNatClampNeg (some (k2, i2))) (i := i) hk h0
        rw [show zln (zsr h k i x.toNatClampNeg (some (k2, i2))) k i = zln h k i from rfl] at ez
        rw [← ez] at hP1 hD1
        refine kk H1 locs1 hS1 (zRel.put hw hx1 hP1 hD1 (zse_r h k i _ (some (k2, i2))) (fun j q hz => ?_) (by rw [h0]; decide) (by rw [h0]; decide)) fun w hw2 => (zse_r h k i _ (some (k2, i2))).okv w (hv w (by simp [hw2]))
        by_cases ej : j = x.toNatClampNeg
        · subst ej
          rw [show zr (zsr h k i x.toNatClampNeg (some (k2, i2))) k i x.toNatClampNeg = (some (k2, i2)) from zu_self] at hz
          cases hz; exact hv (.inr (k2, i2)) (by simp)
        · rw [show zr (zsr h k i x.toNatClampNeg (some (k2, i2))) k i j = zr h k i j from zu_other ej] at hz
          exact hval _ _ _ _ hz
  · rename_i k i st2
    cases hq : ztg k == 1 || ztg k == 10 with
    | false => simp [hq] at hs
    | true =>
      simp only [hq, cond_true, Option.some.injEq, Prod.mk.injEq] at hs
      obtain ⟨rfl, rfl, rfl, rfl⟩ := hs
      have kk2 := kk H locs hS hR0 fun w hw2 => (List.mem_cons.mp hw2).elim (fun z => z ▸ trivial) (fun z => hv w (by simp [z]))
      by_cases h0 : ztg k = 1
      · obtain ⟨hk, hx1⟩ := zok_ex (hv (.inr (k, i)) (by simp)) (by rw [h0]; decide)
        have he := hw.1 k i hx1
        rw [zent_a1 hk h0] at he
        exact ⟨rfl, rfl, Or.inl rfl, va_alen (D := G.1) (cl := zcl) (tys := ztys G.2.1) hx hb hE.1 hP (pos k i) 0 he rfl rfl hd kk2⟩
      · have h10 : ztg k = 10 := by
          rw [Bool.or_eq_true] at hq
          rcases hq with hq | hq
          · exact absurd (eq_of_beq hq) h0
          · exact eq_of_beq hq
        have h1 := hv (.inr (k, i)) (by simp)
        obtain ⟨hk, h2⟩ := h1
        rcases h2 with h2 | h2
        · exact absurd h10 (((zex_lt hk).mp h2).1)
        · injection h2 with e1 e2
          have e1 : k = zSK := e1
          have e2 : i = 0 := e2
          subst e1 e2
          obtain ⟨-, -, -, r4, r5, r6⟩ := hw
          obtain ⟨-, hX, hbl, hbA, -⟩ := hE
          refine ⟨rfl, rfl, Or.inl rfl, ?_⟩
          show W p l e R s m args below meth c H locs cells slots Q (F0 m b ls (.ref (ρ zSK 0) :: zM ρ st2))
          rw [r4]
          refine va_slen hx hb hX hbl hbA hS hd ?_
          rw [r5] at kk2
          exact kk2
  · cases hs
end ZA
