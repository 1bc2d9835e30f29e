section ZMAIN
theorem zarg_st {na : Nat} {st as st' : List zV} (h : zarg na st = some (as, st')) : st = as.reverse ++ st' ∧ as.length = na := by
  unfold zarg at h
  cases hc : Nat.ble na st.length with
  | false => rw [hc] at h; cases h
  | true =>
    rw [hc, cond_true] at h
    cases h
    rw [List.reverse_reverse, List.length_reverse, List.length_take]
    have := Nat.le_of_ble_eq_true hc
    exact ⟨(List.take_append_drop na st).symm, by omega⟩
theorem zM_rev {ρ : Nat → Nat → Nat} (as st : List zV) : zM ρ (as.reverse ++ st) = (zM ρ as).reverse ++ zM ρ st := by
  unfold zM
  rw [List.map_append, List.map_reverse]
theorem zM_sum {ρ : Nat → Nat → Nat} : ∀ st : List zV, ((zM ρ st).map fun v => v.category).sum ≤ 2 * st.length
  | [] => Nat.le_refl _
  | v :: st => by
    have ih := zM_sum (ρ := ρ) st
    show (ztv ρ v).category + ((zM ρ st).map fun v => v.category).sum ≤ 2 * (st.length + 1)
    rcases lv_cat (ztv ρ v) with e | e <;> omega
theorem zM_sw {ρ : Nat → Nat → Nat} : ∀ st : List zV, ((zM ρ st).map fun v => v.category).sum = zsw st
  | [] => rfl
  | v :: st => by
    have ih := zM_sw (ρ := ρ) st
    show (ztv ρ v).category + ((zM ρ st).map fun v => v.category).sum = zcat v + zsw st
    rw [ih]
    cases v <;> rfl
theorem zsk4_s {ρ : Nat → Nat → Nat} {st : List zV} (h : zsk4 st = true) : ((zM ρ st).map fun v => v.category).sum ≤ 8 := by
  unfold zsk4 at h
  rw [Bool.or_eq_true] at h
  rcases h with h | h
  · have := Nat.le_of_ble_eq_true h
    have := zM_sum (ρ := ρ) st
    omega
  · rw [zM_sw]
    exact Nat.le_of_ble_eq_true h
theorem zGI {ws : List Cond} (h : ∀ w ∈ ws, w ∈ zTs) : GoodIn zTs ws := fun w hw => ⟨h w hw, (zTs_good w (h w hw)).2⟩
theorem zrcv_in {ci : Nat} {as : List zV} (h : zrcv ci as = true) (hc : ci ≠ 99) : ∃ k i as1, as = .inr (k, i) :: as1 ∧ ztg k = 0 ∧ zkc k = ci := by
  unfold zrcv at h
  split at h
  · exact absurd rfl hc
  · rename_i k i as1 _
    rw [Bool.and_eq_true] at h
    exact ⟨_, _, _, rfl, eq_of_beq h.1, eq_of_beq h.2⟩
  · cases h
theorem zF_get {o : Instr} {a : List Nat} {pc : Nat} {L : zLs} {st : List zV} {h : zH} {c : zC} (hs : zsFld o a pc L st h = some c) (idx : Nat) (ho : o = .getfield idx) : c.2.2.2 = h := by
  unfold zsFld at hs
  split at hs
  · rename_i ci j t k i st2
    cases hq : ztg k == 0 && zkc k == ci with
    | false => simp only [hq, cond_false] at hs; cases hs
    | true =>
      simp only [hq, cond_true] at hs
      split at hs <;> (cases hs; rfl)
  · cases ho
  · cases hs
theorem zB_pc {w pc : Nat} {L : zLs} {st : List zV} {h : zH} {c : zC} (hs : zsLib w pc L st h = some c) : c.1 = pc + 1 ∧ c.2.1 = L := by
  replace hs := (zLib_in hs).1
  unfold zsLib0 at hs
  split at hs <;> first
    | (cases hs; exact ⟨rfl, rfl⟩)
    | (cases hs; done)
    | (simp only [cond_eq_ite] at hs; split at hs <;> first
        | (cases hs; exact ⟨rfl, rfl⟩)
        | (cases hs; done)
        | (split at hs <;> first
          | (cases hs; exact ⟨rfl, rfl⟩)
          | (cases hs; done)
          | (split at hs <;> first
            | (cases hs; exact ⟨rfl, rfl⟩)
            | (cases hs; done))))
/-- two names of one address are one -/
theorem zrho_inj {G : zG} {s : State} {h : zH} {ρ pos : Nat → Nat → Nat} {ws : va_W} {H : Heap} (hE : zEnv G s) (hP : va_P G.1 zcl ws H) (hD : va_D G.2.2.2.1 ws) (hw : zRelw G h ρ pos ws) {q r : Nat × Nat} (hq : zok h q) (hr : zok h r) (e : ρ q.1 q.2 = ρ r.1 r.2) : q = r := by
  obtain ⟨r1, r2, r3, r4, r5, r6⟩ := hw
  obtain ⟨-, hq⟩ := hq
  obtain ⟨-, hr⟩ := hr
  have ex : ∀ k i, zex h k i → ρ k i = ρ zSK 0 → False := by
    intro k i hx e
    have h1 := hD.2 _ _ (r1 _ _ hx)
    rw [e, r4] at h1
    exact hE.2.2.2.1 h1
  rcases hq with hq | hq <;> rcases hr with hr | hr
  · have h3 := r2 _ _ _ _ hq hr (hD.1 _ _ _ _ (r1 _ _ hq) (r1 _ _ hr) e)
    exact Prod.ext h3.1 h3.2
  · exact (ex _ _ hq (by rw [e, hr])).elim
  · exact (ex _ _ hr (by rw [← e, hq])).elim
  · exact hq.trans hr.symm
theorem zag.tr {h0 h : zH} {ρ0 ρ ρ' : Nat → Nat → Nat} (a : zag h0 ρ0 ρ) (b : zag h ρ ρ') (x : ∀ k i, zex h0 k i → zex h k i) : zag h0 ρ0 ρ' := fun k i hk z => (b k i hk (z.imp (x k i) id)).trans (a k i hk z)
set_option maxHeartbeats 4000000 in
theorem zsound {P : zP} {M : zT} {G : zG} {X : State → Prop} (F1 : zF1 P M) (F2 : zF2 P M) (F3 : zF3 P M X) (hTh : zThrowOK P M G X) (hLib : zLibOK P M G X) (hHd : zHandOK P M G X) (hhh : ∀ mi, P.2.2 mi = [] ↔ M.2.2.2.1 mi = [])
    (hAL : ∀ w ∈ u_ws RJx4a65c TJx4a65c 3, w ∈ zTs) (harr : ∀ t, (Cond.arrayClass t) ∈ zTs ∨ ¬ (t = .int ∨ t = .boolean))
    (hXm : ∀ (s U : State) (H : Heap) (locs : List Loc), X s → va_S G.2.2.2.1 s.heap H locs → U.heap = H → s.WarmedH U.vm → X U) (hXb : ∀ U g mk a, X U → X (State.calling U g mk a))
    (hAO : ∀ s, X s → ∀ k (C : String) (T : u_T) (N : Nat), ztg k = 5 → zcl[zkc k]? = some (C, T, N) → va_AO C s) :
    ∀ (n mi pc : Nat) (L : zLs) (st : List zV) (h : zH) (out : zO) (h' : zH), zrun P n mi pc L st h = some (out, h') → zGoal P M G X mi pc L st h out h' := by
  intro n
  induction n with
  | zero => intro mi pc L st h out h' hs; cases hs
  | succ n ih =>
    intro mi pc L st h out h' hs
    intro p l e R s m args below meth c C H locs cells slots ls ρ ρ0 h0 mc ms o hPo hS hR hL hLv hv hag hex hmc hms hmcR hmsR
    obtain ⟨hx, hb, hml, hown, hts, hr, hlocks, hexc, hname, hfr, hlo, hE, hX, hst⟩ := id C
    obtain ⟨f1, f2, f3, f4, f5, f6, f7, f8⟩ := F1 mi pc o hPo
    have hLt : zLV (P.2.1 mi).1 ρ (ztr o.2.2 L) ls := hL.trim f2
    have hLvt : ∀ i v, zget (ztr o.2.2 L) i = some v → zokv h v := fun i v hi => hLv i v (zget_tr hi)
    have cont : ∀ (pc1 : Nat) (L1 : zLs) (st1 : List zV) (h1 : zH), zrun P n mi pc1 L1 st1 h1 = some (out, h') → zle h h1 → ∀ (ρ' : Nat → Nat → Nat) (H1 : Heap) (locs1 : List Loc) (cells1 slots1 : Nat) (ls1 : Array Slot) (o1 : zOp), P.1 mi pc1 = some o1 → zag h ρ ρ' → va_S G.2.2.2.1 s.heap H1 locs1 → zRel G h1 H1 ρ' → zLV (P.2.1 mi).1 ρ' L1 ls1 → (∀ i v, zget L1 i = some v → zokv h1 v) → (∀ v ∈ st1, zokv h1 v) →
        cells1 + zce h = cells + zce h1 → slots1 + zso h = slots + zso h1 → W p l e R s m args below meth c H1 locs1 cells1 slots1 (vx_MQ below (zQ G ρ0 h0 out h') (zX G ρ0 h0 out h') args s mc ms G.2.2.2.1) (F0 m o1.1.2 ls1 (zM ρ' st1)) := by
      intro pc1 L1 st1 h1 hr1 hle ρ' H1 locs1 cells1 slots1 ls1 o1 ho1 ha1 hS1 hR1 hL1 hLv1 hv1 hc1 hs1
      exact ih _ _ _ _ _ _ _ hr1 p l e R s m args below meth c C H1 locs1 cells1 slots1 ls1 ρ' ρ0 h0 mc ms o1 ho1 hS1 hR1 hL1 hLv1 hv1 (hag.tr ha1 hex) (fun k i z => hle.2.2 k i (hex k i z)) (by omega) (by omega) hmcR hmsR
    unfold zrun at hs
    rw [hPo] at hs
    dsimp only at hs
    split at hs
    · -- a call
      rename_i mj na ci kd a ha
      split at hs
      · cases hs
      · rename_i as st' hza
        simp only [cond_eq_ite] at hs
        split at hs
        · rename_i hcond
          rw [Bool.and_eq_true, Bool.and_eq_true] at hcond
          obtain ⟨⟨hcv, hc4⟩, hcn⟩ := hcond
          have hc4 := zsk4_s (ρ := ρ) hc4
          have hcn := Nat.le_of_ble_eq_true hcn
          obtain ⟨rfl, hna⟩ := zarg_st hza
          have hvas : ∀ v ∈ as, zokv h v := fun v hz => hv v (List.mem_append_left _ (List.mem_reverse.mpr hz))
          have hvst : ∀ v ∈ st', zokv h v := fun v hz => hv v (List.mem_append_right _ hz)
          obtain ⟨⟨o0, hP0, hb0⟩, k1, k2, k3, k4, k5, k6, kk⟩ := F3 mi pc o hPo mj na ci kd a ha
          have hdn : decode (M.2.1 mi) o.1.2 = .ok (o.1.1, zlen o.1.1) := by
            rcases f1 with f1 | ⟨d, lo, hi, offs, len, e2, e4, b, e5⟩
            · exact f1
            · rw [ha] at e5
              cases e5
          obtain ⟨o1, ho1, hb1⟩ := f4 _ _ ha (by decide) (by decide)
          have hl3 : zlen o.1.1 = 3 := by
            rcases kk with ⟨-, -, idx, e, -⟩ | ⟨-, -, idx, e, -⟩ | ⟨-, -, idx, e, -⟩ | ⟨-, -, idx, host, e, -⟩ | ⟨-, -, idx, host, e, -⟩ | ⟨-, -, idx, e, -⟩ <;> rw [e] <;> rfl
          have S : CallFix p m c (M.2.1 mi) (P.2.1 mi).1 s args zTs (M.1 mi).cls := ⟨hx, hb, hml, hown, hts⟩
          have hpre : ∀ U : State, U.heap = H → s.WarmedH U.vm → zPc G X h ρ as (zM ρ as).toArray U := fun U hU hW => ⟨rfl, by rw [hU]; exact hR, hE.mv hS hU hW.alike, hXm s U H locs hX hS hU hW⟩
          have hWr : 2 * (F0 m o.1.2 ls (zM ρ (as.reverse ++ st'))).monitorRoom + ((zM ρ st').map fun v => v.category).sum ≤ 8 := by
            show 2 * 0 + _ ≤ 8
            omega
          have hin : ∀ w ∈ zws P M mj, w ∈ zTs := fun w hw => (List.mem_cons.mp hw).elim (fun z => z ▸ k4) id
          have hRm : ∀ mc' ms', (zrm M mj mc' ms').frames + 1 ≤ R.frames ∧ 8 + ((P.2.1 mj).1 + 11) + (zrm M mj mc' ms').locals ≤ R.locals := fun _ _ => ⟨Nat.le_trans k5 hfr, Nat.le_trans k6 hlo⟩
          have hstk : zM ρ (as.reverse ++ st') = (zM ρ as).reverse ++ zM ρ st' := zM_rev as st'
          have hcode0 : M.2.2.2.1 mj = [] → zws P M mj = Cond.code (M.1 mj) (M.2.1 mj) (P.2.1 mj).1 (M.2.2.1 mj) :: zTs := by
            intro hh
            unfold zws zcw
            rw [hh]
          have hrcv : ci ≠ 99 → ∃ k i as1, as = .inr (k, i) :: as1 ∧ ztg k = 0 ∧ zkc k = ci ∧ ∀ (C9 : String) (T : u_T) (N : Nat), zcl[ci]? = some (C9, T, N) → ∃ cell : Cell, H[ρ k i]? = some cell ∧ cell.vm.isStatics = false ∧ s.vm.findClass C9 = some cell.cls := by
            intro hc
            obtain ⟨k, i, as1, rfl, q1, q2⟩ := zrcv_in hcv hc
            refine ⟨k, i, as1, rfl, q1, q2, fun C9 T N q3 => ?_⟩
            obtain ⟨hk, hx1⟩ := zok_ex (hvas _ List.mem_cons_self) (by rw [q1]; decide)
            obtain ⟨ws, pos, hP, hD, hw⟩ := hR
            have he := hw.1 k i hx1
            rw [zent_obj hk q1, q2] at he
            exact va_recv hE.1 hP q3 he
          have runX : ∀ (out1 : zO) (h1 : zH), zrun P n mj 0 (zpad (P.2.1 mj).1 (zil as)) [] h = some (out1, h1) → kd < 2 → cells + (zce h1 - zce h) ≤ R.cells → slots + (zso h1 - zso h) ≤ R.slots →
              vx_Run p l e R s m args below meth c H locs cells slots (zce h1 - zce h) (zso h1 - zso h) (F0 m o.1.2 ls (zM ρ (as.reverse ++ st'))) (zM ρ st') (zQ G ρ h out1 h1 (zM ρ as).toArray) (zX G ρ h out1 h1) G.2.2.2.1 := by
            intro out1 h1 hr1 hkd hrc hrs
            have hM := zmet (l := l) (ρ := ρ) o0 hP0 hb0 k1 hst (zrun_le P _ _ _ _ _ _ _ _ hr1) hcn hvas (ih _ _ _ _ _ _ _ hr1)
            rcases kk with ⟨-, hh, idx, e1, ⟨C9, T, N, c1, c2, c3⟩, c4, c5, c6, c7⟩ | ⟨-, hh, idx, e1, c4, c5, c6⟩ | ⟨e9, -⟩ | ⟨e9, -⟩ | ⟨e9, -⟩ | ⟨e9, -⟩
            · obtain ⟨k, i, as1, rfl, q1, q2, q3⟩ := hrcv c2
              rw [e1] at hdn
              have hn1 : (parseMethodDescriptor (M.1 mj).desc).map (fun d => d.parameters.length) = some as1.length := by
                rw [← hna] at c4
                cases hpm : parseMethodDescriptor (M.1 mj).desc with
                | none => rw [hpm] at c4; cases c4
                | some d =>
                  rw [hpm] at c4
                  simp only [Option.map_some, Option.some.injEq, List.length_cons] at c4 ⊢
                  omega
              exact vx_runV S hM (cwV (C := C9) as1.length hts (zGI (fun w hw => by
                unfold wsV at hw
                rcases List.mem_append.mp hw with z | z
                · simp only [List.mem_cons, List.not_mem_nil, or_false] at z
                  rcases z with rfl | rfl | rfl | rfl
                  · exact c5
                  · exact c6
                  · rw [← c3]; exact c7
                  · rw [← c3]; exact k3
                · exact hin w z)) (hcode0 hh) rfl rfl ⟨c3, k2.1, k2.2, hn1⟩ (hRm _ _)) ⟨zPc_blind hXb, q3 _ _ _ c1, hpre⟩ rfl (by simp [zM]) hL.1 (by rw [hstk]; simp [zM, ztv]) hWr hdn ⟨hrc, hrs⟩
            · rw [e1] at hdn
              exact vx_runS S hM ⟨callB_of as.length hts (zGI hin) (hcode0 hh) rfl rfl (hts _ k3) (hts _ c5) ⟨k2.1, k2.2, by rw [hna]; exact c4⟩ (hRm _ _), hts _ c6⟩ ⟨zPc_blind hXb, hpre⟩ rfl (by simp [zM]) hL.1 hstk hWr hdn ⟨hrc, hrs⟩
            all_goals omega
          have run : ∀ (v : Option zV) (h1 : zH), zrun P n mj 0 (zpad (P.2.1 mj).1 (zil as)) [] h = some (.inl v, h1) → cells + (zce h1 - zce h) ≤ R.cells → slots + (zso h1 - zso h) ≤ R.slots →
              va_Run p l e R s m args below meth c H locs cells slots (zce h1 - zce h) (zso h1 - zso h) (F0 m o.1.2 ls (zM ρ (as.reverse ++ st'))) (zM ρ st') (zQ G ρ h (.inl v) h1 (zM ρ as).toArray) G.2.2.2.1 := by
            intro v h1 hr1 hrc hrs
            by_cases hkd : kd < 2
            · exact zrun_of_vx (runX _ _ hr1 hkd hrc hrs)
            · have hM := zmet_ret (zmet (l := l) (ρ := ρ) o0 hP0 hb0 k1 hst (zrun_le P _ _ _ _ _ _ _ _ hr1) hcn hvas (ih _ _ _ _ _ _ _ hr1))
              rcases kk with ⟨e9, -⟩ | ⟨e9, -⟩ | ⟨-, hh, idx, e1, c2, c3, c4, c5, c6, c7⟩ | ⟨-, hh, idx, host, e1, c4, c5, c6⟩ | ⟨-, hh, idx, host, e1, c2, c3, c4, c5, c6, c7⟩ | ⟨-, ⟨x, lh, hh⟩, idx, e1, c4, c5, c6⟩
              · omega
              · omega
              · obtain ⟨k, i, as1, rfl, q1, q2, q3⟩ := hrcv c2
                rw [e1] at hdn
                have hn1 : (parseMethodDescriptor (M.1 mj).desc).map (fun d => d.parameters.length) = some as1.length := by
                  rw [← hna] at c5
                  cases hpm : parseMethodDescriptor (M.1 mj).desc with
                  | none => rw [hpm] at c5; cases c5
                  | some d =>
                    rw [hpm] at c5
                    simp only [Option.map_some, Option.some.injEq, List.length_cons] at c5 ⊢
                    omega
                have hcd := hcode0 hh
                rw [c4] at hcd
                exact va_runI S hM ⟨callB_of as1.length hts (zGI hin) hcd rfl rfl (hts _ k3) (hts _ c6) ⟨k2.1, k2.2, hn1⟩ (hRm _ _), c3, hts _ c7⟩ ⟨zPc_blind hXb, hpre⟩ rfl (by simp [zM]) hL.1 (by rw [hstk]; simp [zM, ztv]) hWr hdn ⟨hrc, hrs⟩
              · rw [e1] at hdn
                exact va_runSN S hM ⟨va_cnB as.length hts (zGI hin) (hcode0 hh) rfl rfl (c5 s hX) (hts _ k3) ⟨k2.1, k2.2, by rw [hna]; exact c4⟩ (hRm _ _), hts _ c6, trivial⟩ ⟨zPc_blind hXb, hpre⟩ rfl (by simp [zM]) hL.1 hstk hWr hdn ⟨hrc, hrs⟩
              · obtain ⟨k, i, as1, rfl, q1, q2, q3⟩ := hrcv c2
                rw [e1] at hdn
                have hn1 : (parseMethodDescriptor (M.1 mj).desc).map (fun d => d.parameters.length) = some as1.length := by
                  rw [← hna] at c5
                  cases hpm : parseMethodDescriptor (M.1 mj).desc with
                  | none => rw [hpm] at c5; cases c5
                  | some d =>
                    rw [hpm] at c5
                    simp only [Option.map_some, Option.some.injEq, List.length_cons] at c5 ⊢
                    omega
                have hcd := hcode0 hh
                rw [c4] at hcd
                exact va_runIN S hM ⟨va_cnB as1.length hts (zGI hin) hcd rfl rfl (c6 s hX) (hts _ k3) ⟨k2.1, k2.2, hn1⟩ (hRm _ _), c3, hts _ c7⟩ ⟨zPc_blind hXb, hpre⟩ rfl (by simp [zM]) hL.1 (by rw [hstk]; simp [zM, ztv]) hWr hdn ⟨hrc, hrs⟩
              · rw [e1] at hdn
                have hcd : zws P M mj = Cond.codeWith (M.1 mj) (M.2.1 mj) (P.2.1 mj).1 (M.2.2.1 mj) (x :: lh) :: zTs := by
                  unfold zws zcw
                  rw [hh]
                exact vx_runSW S hM (vx_cwSW as.length hts (zGI (fun w hw => by
                  unfold va_wsS at hw
                  rcases List.mem_append.mp hw with z | z
                  · simp only [List.mem_cons, List.not_mem_nil, or_false] at z
                    rcases z with rfl | rfl | rfl
                    · exact c5
                    · exact c6
                    · exact k3
                  · exact hin w z)) hcd rfl rfl ⟨k2.1, k2.2, by rw [hna]; exact c4⟩ (hRm _ _)) ⟨zPc_blind hXb, hpre⟩ rfl (by simp [zM]) hL.1 hstk hWr hdn ⟨hrc, hrs⟩
          split at hs
          · cases hs
          · rename_i h1 hr1
            have hle : zle h h1 := zrun_le P _ _ _ _ _ _ _ _ hr1
            have hle2 : zle h1 h' := zrun_le P _ _ _ _ _ _ _ _ hs
            have q1 := hle.1; have q2 := hle.2.1; have q3 := hle2.1; have q4 := hle2.2.1
            refine zcont (run _ _ hr1 (by omega) (by omega)) hS fun ρ' H1 locs1 ha1 hok hR1 hS1 => ?_
            rw [show o.1.2 + 3 = o1.1.2 from by rw [hb1, hl3], show (((none : Option zV).map (ztv ρ')).toList ++ zM ρ st') = zM ρ' st' from (ha1.M hvst).symm]
            exact cont _ _ _ _ hs hle ρ' H1 locs1 _ _ ls o1 ho1 ha1 hS1 hR1 (ha1.LV hLvt hLt) (fun i v hi => hle.okv (hLvt i v hi)) (fun v hz => hle.okv (hvst v hz)) (by omega) (by omega)
          · rename_i v h1 hr1
            have hle : zle h h1 := zrun_le P _ _ _ _ _ _ _ _ hr1
            have hle2 : zle h1 h' := zrun_le P _ _ _ _ _ _ _ _ hs
            have q1 := hle.1; have q2 := hle.2.1; have q3 := hle2.1; have q4 := hle2.2.1
            refine zcont (run _ _ hr1 (by omega) (by omega)) hS fun ρ' H1 locs1 ha1 hok hR1 hS1 => ?_
            rw [show o.1.2 + 3 = o1.1.2 from by rw [hb1, hl3], show (((some v).map (ztv ρ')).toList ++ zM ρ st') = zM ρ' (v :: st') from congrArg (ztv ρ' v :: ·) (ha1.M hvst).symm]
            exact cont _ _ _ _ hs hle ρ' H1 locs1 _ _ ls o1 ho1 ha1 hS1 hR1 (ha1.LV hLvt hLt) (fun i v hi => hle.okv (hLvt i v hi)) (List.forall_mem_cons.mpr ⟨hok v rfl, fun v hz => hle.okv (hvst v hz)⟩) (by omega) (by omega)
          · rename_i E h1 hr1
            have hle : zle h h1 := zrun_le P _ _ _ _ _ _ _ _ hr1
            have q1 := hle.1; have q2 := hle.2.1
            split at hs
            · rename_i hkd
              have hkd : kd < 2 := Nat.le_of_ble_eq_true hkd
              split at hs
              · rename_i hh
                cases hs
                refine zcontX (runX _ _ hr1 hkd (by omega) (by omega)) hS fun ρ' H1 locs1 q ce ha1 hR1 hS1 hce hcv9 hcl => ?_
                refine vx_out (fun x hx9 => ?_) hlocks hce hcv9 hcl (fun t ht hal => ⟨ρ', E, rfl, rfl, hag.tr ha1 hex, by rw [ht]; exact hR1, hS1.F ht⟩) hS1.2.2 (by omega) (by omega)
                rw [hexc, (hhh mi).mp hh] at hx9
                cases hx9
              · rename_i x lx hh
                split at hs
                · rename_i k hk
                  cases hs
                  refine zcontX (runX _ _ hr1 hkd (by omega) (by omega)) hS fun ρ' H1 locs1 q ce ha1 hR1 hS1 hce hcv9 hcl => ?_
                  obtain rfl : cells + (zce h' - zce h) = mc := by omega
                  obtain rfl : slots + (zso h' - zso h) = ms := by omega
                  exact hHd mi pc o E k hPo (by rw [hh]; exact hk) p l e R s m args below meth c C H1 locs1 _ _ ρ' _ ls _ q ce _ _ hS1 (ha1.LV hLvt hLt) hce hcv9 hcl fun t ht => ⟨ρ', some (zI (nI k)), rfl, rfl, hag.tr ha1 hex, fun w hw => by cases hw; trivial, by rw [ht]; exact hR1, hS1.F ht⟩
                · cases hs
            · cases hs
        · cases hs
    · -- the end
      rename_i a ha
      split at hs
      · cases hs
      · rename_i v hv1
        cases hs
        obtain rfl : cells = mc := by omega
        obtain rfl : slots = ms := by omega
        have hd : decode (M.2.1 mi) o.1.2 = .ok (o.1.1, 1) := by
          have hk := f7 _ ha
          rcases f1 with f1 | ⟨d, lo, hi, offs, len, e1, -, -⟩
          · rw [f1]
            revert hk
            generalize (P.2.1 mi).2 = k
            intro hk
            unfold zrtO at hk
            split at hk <;> first | (rw [hk.1]; rfl) | exact hk.elim
          · exfalso
            rw [e1] at hk
            revert hk
            generalize (P.2.1 mi).2 = k
            intro hk
            unfold zrtO at hk
            split at hk <;> first | (cases hk.1) | exact hk.elim
        have hk := f7 _ ha
        rw [← hr] at hk
        exact zs_ret hx hb hlocks hv1 hk hd hS hR hag hv
    · -- an exception
      rename_i E a ha
      split at hs
      · rename_i hh
        cases hs
        obtain ⟨e1, e2⟩ : zce (zro h 1 6) = zce h + 1 ∧ zso (zro h 1 6) = zso h + 6 := ⟨rfl, rfl⟩
        refine hTh mi pc o E a hPo ha hh p l e R s m args below meth c C H locs cells slots mc ms ls _ _ hS (hL.1.trans hml.symm) (by omega) (by omega) hmcR hmsR (fun t hal hz ho => ⟨ρ, E, rfl, rfl, hag, ?_, Nat.le_trans hS.1 hz, fun q hq hA => (ho q (Nat.lt_of_lt_of_le hq hS.1)).trans (hS.2.1 q hq hA)⟩)
        obtain ⟨ws, pos, hP, hD, hw⟩ := hR
        exact ⟨ws, pos, hP.kept (fun k q hk => ho q.1 (hP k q hk).lt), hD, hw⟩
      · cases hs
    · -- the others
      rename_i hn9 hn10 hn11
      split at hs
      · cases hs
      · rename_i c1 hc
        obtain ⟨pc1, L1, st1, h1⟩ := c1
        dsimp only at hs
        have hle : zle h h1 := zstp_le hc
        have hle2 : zle h1 h' := zrun_le P _ _ _ _ _ _ _ _ hs
        have hdn : ∀ g a, o.2.1 = g :: a → g ≠ 4 → decode (M.2.1 mi) o.1.2 = .ok (o.1.1, zlen o.1.1) := by
          intro g a e1 e3
          rcases f1 with f1 | ⟨d, lo, hi, offs, len, e2, e4, b, e5⟩
          · exact f1
          · rw [e1] at e5
            cases e5
            exact absurd rfl e3
        have hr0 : zag h ρ ρ := fun _ _ _ _ => rfl
        obtain ⟨g1, g2, g3⟩ := F2 mi pc o hPo
        have hrc : cells + zce h1 ≤ R.cells + zce h := by have := hle2.1; omega
        have hrs : slots + zso h1 ≤ R.slots + zso h := by have := hle2.2.1; omega
        unfold zstp at hc
        split at hc
        · -- constants and locals
          rename_i a ha
          obtain ⟨o1, ho1, hb1⟩ := f4 _ _ ha (by decide) (by decide)
          have e1 := zL_pc hc
          have e2 := zL_le hc
          obtain ⟨k1, k2⟩ := zL_ok hc hLvt hv
          dsimp only at e1 e2 k1 k2
          subst e1 e2
          obtain ⟨c1, c2⟩ := g1 _ ha
          refine (zs_loc hx hb hown hc (hdn _ _ ha (by decide)) (fun i n q1 q2 => hts _ (c1 i n q1 q2)) (fun i n q1 q2 => hts _ (c2 i n q1 q2)) f3 hLt fun ls' hl' => ?_).2.2
          rw [← hb1]
          exact cont _ _ _ _ hs hle ρ H locs cells slots ls' o1 ho1 hr0 hS hR hl' k1 k2 rfl rfl
        · -- numbers
          rename_i a ha
          obtain ⟨o1, ho1, hb1⟩ := f4 _ _ ha (by decide) (by decide)
          obtain ⟨e1, e3⟩ := zN_pc hc
          have e2 := zN_le hc
          have k2 := zN_ok hc hv
          dsimp only at e1 e2 e3 k2
          subst e1 e2 e3
          refine (zs_num hx hb hc (hdn _ _ ha (by decide)) ?_).2.2.2
          rw [← hb1]
          exact cont _ _ _ _ hs hle ρ H locs cells slots ls o1 ho1 hr0 hS hR hLt hLvt k2 rfl rfl
        · -- compares
          rename_i a ha
          obtain ⟨o1, ho1, hb1⟩ := f4 _ _ ha (by decide) (by decide)
          obtain ⟨e1, e3⟩ := zC_pc hc
          have e2 := zC_le hc
          have k2 := zC_ok hc hv
          dsimp only at e1 e2 e3 k2
          subst e1 e2 e3
          refine (zs_cmp hx hb hc (hdn _ _ ha (by decide)) ?_).2.2.2
          rw [← hb1]
          exact cont _ _ _ _ hs hle ρ H locs cells slots ls o1 ho1 hr0 hS hR hLt hLvt k2 rfl rfl
        · -- branches
          rename_i t a ha
          obtain ⟨o1, ho1, hb1⟩ := f4 _ _ ha (by decide) (by decide)
          obtain ⟨o2, ho2, hb2⟩ := f5 _ _ ha
          have e2 := zI_le hc
          obtain ⟨-, k2⟩ := zI_ok hc hv
          dsimp only at e2 k2
          subst e2
          have e3 : L1 = ztr o.2.2 L := by
            have : ∀ {o : Instr} {t pc : Nat} {L : zLs} {st : List zV} {h : zH} {c : zC}, zsIf o t pc L st h = some c → c.2.1 = L := by
              intro o t pc L st h c hs
              unfold zsIf at hs
              split at hs <;> first
                | (cases hs; rfl)
                | (cases hs; done)
                | (obtain ⟨x, -, hs⟩ := Option.bind_eq_some_iff.mp hs; obtain ⟨y, -, hs⟩ := Option.bind_eq_some_iff.mp hs; cases hs; rfl)
            exact this hc
          subst e3
          refine (zs_if (tb := o2.1.2) hx hb hc (hdn _ _ ha (by decide)) hb2 ?_ (fun e1 => ?_) (fun e1 => ?_)).2.2
          · intro q r hq hr e4
            obtain ⟨ws, pos, hP, hD, hw⟩ := hR
            exact zrho_inj hE hP hD hw (hv _ hq) (hv _ hr) e4
          · subst e1
            exact cont _ _ _ _ hs hle ρ H locs cells slots ls o2 ho2 hr0 hS hR hLt hLvt k2 rfl rfl
          · subst e1
            rw [show o.1.2 + 3 = o1.1.2 from by
              rw [hb1]
              revert hc
              unfold zsIf
              intro hc
              split at hc <;> first | (simp only [zlen, *]; done) | (cases hc; done)]
            exact cont _ _ _ _ hs hle ρ H locs cells slots ls o1 ho1 hr0 hS hR hLt hLvt k2 rfl rfl
        · -- switches
          rename_i d ts ha
          have e2 := zS_le hc
          have k2 := zS_ok hc hv
          dsimp only at e2 k2
          subst e2
          have e3 : L1 = ztr o.2.2 L := by
            unfold zsSw at hc
            split at hc
            · split at hc
              · cases hc; rfl
              · obtain ⟨x, -, hc⟩ := Option.map_eq_some_iff.mp hc
                cases hc; rfl
            · cases hc
          subst e3
          have hd9 : ∃ len, decode (M.2.1 mi) o.1.2 = .ok (o.1.1, len) := by
            rcases f1 with f1 | ⟨d, lo, hi, offs, len, e2, e4, b, e5⟩
            · exact ⟨_, f1⟩
            · exact ⟨_, e4⟩
          obtain ⟨len, hd9⟩ := hd9
          have f6' := f6 _ _ ha
          refine (zs_sw hx hb hc hd9 (fun dflt lo hi offs tb q1 q2 q3 => ?_) (fun dflt lo hi offs q1 => ?_) (fun dflt lo hi offs j q1 q2 => ?_)).2.2
          · obtain ⟨⟨o1, ho1, hb1⟩, -⟩ := f6' _ _ _ _ q1
            subst q3
            have e4 : tb = o1.1.2 := by omega
            subst e4
            exact cont _ _ _ _ hs hle ρ H locs cells slots ls o1 ho1 hr0 hS hR hLt hLvt k2 rfl rfl
          · obtain ⟨⟨o1, ho1, hb1⟩, -⟩ := f6' _ _ _ _ q1
            exact ⟨_, hb1⟩
          · obtain ⟨-, q3⟩ := f6' _ _ _ _ q1
            obtain ⟨o1, off, ho1, ho2, hb1⟩ := q3 _ _ q2
            exact ⟨off, _, ho2, hb1, cont _ _ _ _ hs hle ρ H locs cells slots ls o1 ho1 hr0 hS hR hLt hLvt k2 rfl rfl⟩
        · -- fields
          rename_i a ha
          obtain ⟨o1, ho1, hb1⟩ := f4 _ _ ha (by decide) (by decide)
          obtain ⟨e1, e3⟩ := zF_pc hc
          dsimp only at e1 e3
          subst e1 e3
          have hd9 := hdn _ _ ha (by decide)
          have c1 := g2 _ ha
          revert hc hd9 c1 hb1
          generalize o.1.1 = oi
          intro hb1 hc hd9 c1
          match oi, hc, hd9, c1, hb1 with
          | .getfield idx, hc, hd9, c1, hb1 =>
            obtain ⟨ci, j, C9, T, N, q1, q2, q3, q4, q5, -⟩ := c1 idx (Or.inl rfl)
            have hz : h1 = h := zF_get hc idx rfl
            subst hz
            refine (zs_get (idx := idx) hx hb hown hts hE hc hd9 ⟨ci, j, C9, T, N, q1, q2, q3, q4, hts _ q5⟩ hR hv fun k2 => ?_).2.2.2
            rw [show o.1.2 + 3 = o1.1.2 from hb1.symm]
            exact cont _ _ _ _ hs hle ρ H locs cells slots ls o1 ho1 hr0 hS hR hLt hLvt k2 rfl rfl
          | .putfield idx, hc, hd9, c1, hb1 =>
            obtain ⟨ci, j, C9, T, N, q1, q2, q3, q4, q5, q6⟩ := c1 idx (Or.inr rfl)
            have q6 := q6 rfl
            refine (zs_put (idx := idx) hx hb hown hts hE hc hd9 ⟨ci, j, C9, T, N, q1, q2, q3, q4, hts _ q5⟩ (fun ci2 j2 t2 z1 C2 T2 N2 z2 => ?_) hS hR hv fun H1 locs1 hS1 hR1 k2 => ?_).2.2.2
            · rw [q1] at z1
              simp only [List.cons.injEq, and_true] at z1
              obtain ⟨rfl, rfl, -⟩ := z1
              rw [q3] at z2
              simp only [Option.some.injEq, Prod.mk.injEq] at z2
              obtain ⟨rfl, rfl, rfl⟩ := z2
              rw [hname]
              exact q6
            · rw [show o.1.2 + 3 = o1.1.2 from hb1.symm]
              have e9 : zce h1 = zce h ∧ zso h1 = zso h := zF_cnt hc
              exact cont _ _ _ _ hs hle ρ H1 locs1 cells slots ls o1 ho1 hr0 hS1 hR1 hLt (fun i v hi => hle.okv (hLvt i v hi)) k2 (by omega) (by omega)
        · -- arrays
          rename_i a ha
          obtain ⟨o1, ho1, hb1⟩ := f4 _ _ ha (by decide) (by decide)
          obtain ⟨e1, e3⟩ := zA_pc hc
          dsimp only at e1 e3
          subst e1 e3
          refine (zs_arr hx hb hE hc (hdn _ _ ha (by decide)) hS hR hv fun H1 locs1 hS1 hR1 k2 => ?_).2.2.2
          rw [← hb1]
          have e9 : zce h1 = zce h ∧ zso h1 = zso h := zA_cnt hc
          exact cont _ _ _ _ hs hle ρ H1 locs1 cells slots ls o1 ho1 hr0 hS1 hR1 hLt (fun i v hi => hle.okv (hLvt i v hi)) k2 (by omega) (by omega)
        · -- makings
          rename_i a ha
          obtain ⟨o1, ho1, hb1⟩ := f4 _ _ ha (by decide) (by decide)
          obtain ⟨e1, e3⟩ := zW_pc hc
          dsimp only at e1 e3
          subst e1 e3
          obtain ⟨c1, c2, c3, c4⟩ := g3 _ ha
          refine (zs_new hx hb hown hts hE hAL harr hc (hdn _ _ ha (by decide)) ⟨fun idx k q1 q2 q3 => ?_, fun idx k q1 q2 q3 => ?_, fun idx k q1 q2 q3 => ?_, fun idx ci q1 q2 => ?_⟩ hS hR hv hrc hrs fun ρ' H1 locs1 cells1 slots1 ha1 hS1 hR1 k2 z1 z2 => ?_).2.2.2
          · obtain ⟨C9, T, N, q4, q5, q6, q7, q8⟩ := c1 idx k q1 q2 q3
            exact ⟨C9, T, N, q4, q5, hts _ q6, hts _ q7, hts _ q8⟩
          · obtain ⟨q6, q7, q8⟩ := c2 idx k q1 q2 q3
            exact ⟨hts _ q6, hts _ q7, hts _ q8⟩
          · obtain ⟨C9, T, N, q4, q5⟩ := c3 idx k q1 q2 q3
            exact ⟨C9, T, N, q4, hts _ q5, hAO s hX k C9 T N q3 q4⟩
          · obtain ⟨C9, T, N, q4, q5⟩ := c4 idx ci q1 q2
            exact ⟨C9, T, N, q4, hts _ q5⟩
          · rw [← hb1]
            exact cont _ _ _ _ hs hle ρ' H1 locs1 cells1 slots1 ls o1 ho1 ha1 hS1 hR1 (ha1.LV hLvt hLt) (fun i v hi => hle.okv (hLvt i v hi)) k2 z1 z2
        · -- the library
          rename_i w a ha
          obtain ⟨o1, ho1, hb1⟩ := f4 _ _ ha (by decide) (by decide)
          have e13 : pc1 = pc + 1 ∧ L1 = ztr o.2.2 L := zB_pc hc
          obtain ⟨rfl, rfl⟩ := e13
          refine (hLib mi pc o w a hPo ha p l e R s m args below meth c C H locs cells slots ls ρ _ _ _ _ _ _ _ _ hc hS hR (hL.1.trans hml.symm) hv hrc hrs fun ρ' H1 locs1 cells1 slots1 ha1 hS1 hR1 k2 z1 z2 => ?_).2.2
          rw [← hb1]
          exact cont _ _ _ _ hs hle ρ' H1 locs1 cells1 slots1 ls o1 ho1 ha1 hS1 hR1 (ha1.LV hLvt hLt) (fun i v hi => hle.okv (hLvt i v hi)) k2 z1 z2
        · cases hc
end ZMAIN
