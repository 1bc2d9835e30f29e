set_option maxRecDepth 16384
set_option maxHeartbeats 4000000 in
theorem zLib_ok {G : zG} {X : State → Prop} {m0 : Nat} (hok : zXok G X) (hXN : ∀ s, X s → zXN s) (hXL : ∀ s, X s → zXL G m0 s) : zLibOK zPr zMt G X := by
  intro mi pc o w a ho hg p l e R s m args below meth c hC H locs cells slots ls ρ Q pc' L L' st st' h h' hs hS hR hsz hv hrc hrs kk
  replace ho : zfetch mi pc = some o := ho
  have hm := zmi_lt2 ho
  have hk := zfetch_all (f := fun _ o => zckLb mi o) (zckLb_all hm) ho
  have hs2 := zLib_in hs
  clear hs
  obtain ⟨hs, h5⟩ := hs2
  obtain ⟨c1, c2, c3, c4, c5, c6, c7, c8, c9, c10, c11, c12, c13, c14⟩ := hC
  have hd : decode (zMt.2.1 mi) o.1.2 = .ok (o.1.1, zlen o.1.1) := by
    rcases (zF1_ok mi pc o ho).1 with h1 | ⟨d, lo, hi, offs, len, e1, e2, b, e3⟩
    · exact h1
    · rw [hg] at e3
      cases e3
  have hown := zown_ok hm
  have hJ : zJx G X (zMt.1 mi).cls (zMt.2.1 mi) (zPr.2.1 mi).1 (zMt.2.2.1 mi) (zMt.2.2.2.2.1 mi) (zMt.2.2.2.2.2 mi) p R s m args meth c := ⟨c1, c2, c3, c4, c5, c6, c7, c10, c11, c12, c13⟩
  have hls : ls.size = (zPr.2.1 mi).1 := hsz.trans c3
  have hcls : ∀ {n : Nat} {C : String}, zon mi = n → zcn[n]? = some C → (zMt.1 mi).cls = C := fun h1 h2 => by
    rw [h1] at hown
    exact Option.some.inj (hown.symm.trans h2)
  have hz : zM ρ st = st.map (ztv ρ) := rfl
  unfold zckLb at hk
  rw [hg] at hk
  replace hk : zckL0 mi w o.1.1 = true := hk
  unfold zckL0 at hk
  have hlf : ∃ cC, ClassAt s RJx4a65c cC := ⟨_, (c12.1.1 13 (RJx4a65c, TJx4a65c, 3) rfl).2⟩
  obtain ⟨ws, pos, hP, hD, hw⟩ := id hR
  split at hk
  · -- Object()
    rename_i i e1
    simp only [Bool.and_eq_true] at hk
    have k1 : _ ≤ zMt.2.2.2.2.1 mi := Nat.le_of_ble_eq_true hk.2.1
    have k2 : _ ≤ zMt.2.2.2.2.2 mi := Nat.le_of_ble_eq_true hk.2.2
    have hz3 : zlen o.1.1 = 3 := by rw [e1]; rfl
    rw [e1] at hd
    rw [hz3] at kk
    match st, hs, hv, h5, hz with
    | .inr q :: st2, hs, hv, h5, hz =>
      have hs : some (pc + 1, L, st2, h) = some (pc', L', st', h') := hs
      simp only [Option.some.injEq, Prod.mk.injEq] at hs
      obtain ⟨rfl, rfl, rfl, rfl⟩ := hs
      refine ⟨rfl, rfl, ?_⟩
      have hq := zM_sum (ρ := ρ) st2
      have h6 : st2.length + 1 ≤ 5 := h5
      exact W.objInit c1 c2 c4 (c5 _ (zOL_in zOL_b hown hk.1)) (c5 _ zj_l118) (c5 _ zj_l119) rfl hsz rfl hd (by omega) (by show 2 * 0 + ((zM ρ st2).map fun v => v.category).sum + 12 ≤ _; omega) (kk ρ H locs cells slots (fun _ _ _ _ => rfl) hS hR (fun v hz => hv v (List.mem_cons_of_mem _ hz)) rfl rfl)
    | [], hs, _, _, _ => cases hs
    | .inl _ :: _, hs, _, _, _ => cases hs
  · -- ArrayList()
    rename_i i e1
    simp only [Bool.and_eq_true] at hk
    have k1 : _ ≤ zMt.2.2.2.2.1 mi := Nat.le_of_ble_eq_true hk.2.1
    have k2 : _ ≤ zMt.2.2.2.2.2 mi := Nat.le_of_ble_eq_true hk.2.2
    have hz3 : zlen o.1.1 = 3 := by rw [e1]; rfl
    rw [e1] at hd
    rw [hz3] at kk
    have hlink : Cond.methodLink (zMt.1 mi).cls i yJx4a65c_init_da8c8 ∈ zTs := by
      rw [Bool.or_eq_true] at hk
      rcases hk.1 with hq | hq
      · rw [Bool.and_eq_true] at hq
        rw [hcls (Nat.eq_of_beq_eq_true hq.1) rfl, Nat.eq_of_beq_eq_true hq.2]
        exact zj_k122
      · rw [Bool.and_eq_true] at hq
        rw [hcls (Nat.eq_of_beq_eq_true hq.1) rfl, Nat.eq_of_beq_eq_true hq.2]
        exact zj_k254
    match st, hs, hv, h5, hz with
    | .inr (k, j) :: st2, hs, hv, h5, hz =>
      have hs : (bif ztg k == 9 then (if zi h k j 1 = 0 ∧ zln h k j = 0 then some (pc + 1, L, st2, zsi h k j 1 1) else none) else none) = some (pc', L', st', h') := hs
      cases h9 : ztg k == 9 with
      | false => rw [h9] at hs; cases hs
      | true =>
        rw [h9, cond_true] at hs
        have h9 : ztg k = 9 := eq_of_beq h9
        split at hs
        · rename_i h01
          simp only [Option.some.injEq, Prod.mk.injEq] at hs
          obtain ⟨rfl, rfl, rfl, rfl⟩ := hs
          refine ⟨rfl, rfl, ?_⟩
          obtain ⟨hk9, hx⟩ := zok_ex (hv _ List.mem_cons_self) (by rw [h9]; decide)
          have he := hw.1 k j hx
          rw [zent_list hk9 h9, h01.1, if_pos rfl] at he
          have hq := zM_sum (ρ := ρ) st2
          have h6 : st2.length + 1 ≤ 5 := h5
          refine zJI (as := []) (rest := zM ρ st2) (a := ρ k j) hJ hok zJy_init (zjb_init hok hXL he) (Nat.le_of_ble_eq_true rfl) hlink zj_k123 rfl (by omega) (by omega) hS ⟨hP, hD⟩ hls (by omega) hd (by have : zce (zsi h k j 1 1) = zce h := rfl; omega) (by have : zso (zsi h k j 1 1) = zso h := rfl; omega) (fun v H1 locs1 hv1 hS1 => ?_)
          obtain ⟨rfl, hP1, hD1⟩ := hv1
          exact kk ρ H1 locs1 (cells + 0) (slots + 0) (fun _ _ _ _ => rfl) hS1 (zRel_linit hw hx h9 h01.2 hP1 hD1) (fun v hz => (zse_i h k j 1 1).okv v (hv v (List.mem_cons_of_mem _ hz))) rfl rfl
        · cases hs
    | [], hs, _, _, _ => cases hs
    | .inl _ :: _, hs, _, _, _ => cases hs
  · -- size
    rename_i i n e1
    simp only [Bool.and_eq_true] at hk
    have k1 : _ ≤ zMt.2.2.2.2.1 mi := Nat.le_of_ble_eq_true hk.2.1
    have k2 : _ ≤ zMt.2.2.2.2.2 mi := Nat.le_of_ble_eq_true hk.2.2
    have hz3 : zlen o.1.1 = 5 := by rw [e1]; rfl
    rw [e1] at hd
    rw [hz3] at kk
    have hlink : Cond.methodLink (zMt.1 mi).cls i zlS ∈ zTs := by
      rw [hcls (Nat.eq_of_beq_eq_true hk.1.1) rfl, Nat.eq_of_beq_eq_true hk.1.2]
      exact zj_kS
    match st, hs, hv, h5, hz with
    | .inr (k, j) :: st2, hs, hv, h5, hz =>
      have hs : (bif ztg k == 9 then (if zi h k j 1 = 1 then some (pc + 1, L, zI (nI (zln h k j)) :: st2, h) else none) else none) = some (pc', L', st', h') := hs
      cases h9 : ztg k == 9 with
      | false => rw [h9] at hs; cases hs
      | true =>
        rw [h9, cond_true] at hs
        have h9 : ztg k = 9 := eq_of_beq h9
        split at hs
        · rename_i h01
          simp only [Option.some.injEq, Prod.mk.injEq] at hs
          obtain ⟨rfl, rfl, rfl, rfl⟩ := hs
          refine ⟨rfl, rfl, ?_⟩
          obtain ⟨hk9, hx⟩ := zok_ex (hv _ List.mem_cons_self) (by rw [h9]; decide)
          have he := hw.1 k j hx
          rw [zent_list hk9 h9] at he
          have hq := zM_sum (ρ := ρ) st2
          have h6 : st2.length + 1 ≤ 5 := h5
          refine zJF (as := []) (rest := zM ρ st2) (a := ρ k j) (x := zlS) hJ hok zJy_size (zjb_size he) (Nat.le_of_ble_eq_true rfl) (by decide +kernel) (hXL s c13).2.2.2.1 hlink zj_iS zj_lS hlf (va_recv c12.1 hP (q := (RJx4a65c, TJx4a65c, 3)) rfl he) (by omega) (by omega) hS ⟨hP, hD⟩ hls (by omega) hd (by omega) (by omega) (fun v H1 locs1 hv1 hS1 => ?_)
          obtain ⟨rfl, hP1, hD1⟩ := hv1
          exact kk ρ H1 locs1 (cells + 0) (slots + 0) (fun _ _ _ _ => rfl) hS1 ⟨ws, pos, hP1, hD1, hw⟩ (fun v hz => (List.mem_cons.mp hz).elim (fun z => z ▸ trivial) (fun z => hv v (List.mem_cons_of_mem _ z))) rfl rfl
        · cases hs
    | [], hs, _, _, _ => cases hs
    | .inl _ :: _, hs, _, _, _ => cases hs
  · -- get
    rename_i i n e1
    simp only [Bool.and_eq_true] at hk
    have k1 : _ ≤ zMt.2.2.2.2.1 mi := Nat.le_of_ble_eq_true hk.2.1
    have k2 : _ ≤ zMt.2.2.2.2.2 mi := Nat.le_of_ble_eq_true hk.2.2
    have hz3 : zlen o.1.1 = 5 := by rw [e1]; rfl
    rw [e1] at hd
    rw [hz3] at kk
    have hlink : Cond.methodLink (zMt.1 mi).cls i zlG ∈ zTs := by
      rw [hcls (Nat.eq_of_beq_eq_true hk.1.1) rfl, Nat.eq_of_beq_eq_true hk.1.2]
      exact zj_kG
    match st, hs, hv, h5, hz with
    | .inl (.int x) :: .inr (k, j) :: st2, hs, hv, h5, hz =>
      have hs : (bif ztg k == 9 then (if zi h k j 1 = 1 then (if x < 0 ∨ zln h k j ≤ x.toNatClampNeg ∨ 33 < zln h k j then none else some (pc + 1, L, zrv (zr h k j x.toNatClampNeg) :: st2, h)) else none) else none) = some (pc', L', st', h') := hs
      cases h9 : ztg k == 9 with
      | false => rw [h9] at hs; cases hs
      | true =>
        rw [h9, cond_true] at hs
        have h9 : ztg k = 9 := eq_of_beq h9
        split at hs
        · rename_i h01
          split at hs
          · cases hs
          · rename_i hin
            simp only [Option.some.injEq, Prod.mk.injEq] at hs
            obtain ⟨rfl, rfl, rfl, rfl⟩ := hs
            refine ⟨rfl, rfl, ?_⟩
            have hx0 : ¬ x < 0 := fun z => hin (Or.inl z)
            have hx1 : x.toNatClampNeg < zln h k j := Nat.not_le.mp fun z => hin (Or.inr (Or.inl z))
            have hx2 : zln h k j ≤ 33 := Nat.not_lt.mp fun z => hin (Or.inr (Or.inr z))
            obtain ⟨hk9, hx⟩ := zok_ex (hv (.inr (k, j)) (List.mem_cons_of_mem _ List.mem_cons_self)) (by rw [h9]; decide)
            have he := hw.1 k j hx
            have hb : zex h (k + 1000) j := zex_back.mpr ⟨h9, ((zex_lt hk9).mp hx).2.2, by omega⟩
            have hb2 := hw.1 _ _ hb
            rw [zent_list hk9 h9, h01, if_neg (by decide), if_neg (by omega)] at he
            rw [zent_back] at hb2
            obtain ⟨jx, hjx1, rfl⟩ := nI_of hx0
            rw [nI_clamp hjx1] at hx1
            have hcp := zcap_le (zln h k j) (by omega)
            have hq := zM_sum (ρ := ρ) st2
            have h6 : st2.length + 2 ≤ 5 := h5
            refine zJF (as := [.int (nI jx)]) (rest := zM ρ st2) (a := ρ k j) (x := zlG) hJ hok zJy_get (zjb_get hok he hb2 hx0 (nI_lt hx1 (by omega)) (vp_in_nI (by omega) (by omega))) (Nat.le_of_ble_eq_true rfl) ⟨by decide +kernel, by decide +kernel, by show Option.map (fun d => d.parameters.length) (parseMethodDescriptor zlG.desc) = some 1; decide +kernel⟩ (hXL s c13).2.2.2.2.1 hlink zj_iG zj_lG hlf (va_recv c12.1 hP (q := (RJx4a65c, TJx4a65c, 3)) rfl he) (by omega) (by omega) hS ⟨hP, hD⟩ hls (by omega) hd (by omega) (by omega) (fun v H1 locs1 hv1 hS1 => ?_)
            obtain ⟨rfl, hP1, hD1⟩ := hv1
            have hval : ∀ v ∈ zrv (zr h k j (nI jx).toNatClampNeg) :: st2, zokv h v := by
              intro v hz
              rcases List.mem_cons.mp hz with rfl | hz
              · cases hr : zr h k j (nI jx).toNatClampNeg with
                | none => trivial
                | some q => exact hw.2.2.1 _ _ _ _ hr
              · exact hv v (List.mem_cons_of_mem _ (List.mem_cons_of_mem _ hz))
            have k9 := kk ρ H1 locs1 (cells + 0) (slots + 0) (fun _ _ _ _ => rfl) hS1 ⟨ws, pos, hP1, hD1, hw⟩ hval rfl rfl
            have e9 : ztv ρ (zrv (zr h k j (nI jx).toNatClampNeg)) = va_rf (if (nI jx).toNatClampNeg < zln h k j then (zr h k j (nI jx).toNatClampNeg).map (fun q => ρ q.1 q.2) else none) := by
              rw [nI_clamp hjx1, if_pos hx1]
              cases zr h k j jx with
              | none => rfl
              | some q => rfl
            have e8 : zM ρ (zrv (zr h k j (nI jx).toNatClampNeg) :: st2) = va_rf (if (nI jx).toNatClampNeg < zln h k j then (zr h k j (nI jx).toNatClampNeg).map (fun q => ρ q.1 q.2) else none) :: zM ρ st2 := congrArg (· :: zM ρ st2) e9
            rw [e8] at k9
            exact k9
        · cases hs
    | [], hs, _, _, _ => cases hs
    | [.inl (.int _)], hs, _, _, _ => cases hs
    | .inl (.int _) :: .inl _ :: _, hs, _, _, _ => cases hs
    | .inr _ :: _, hs, _, _, _ => cases hs
    | .inl (.long _) :: _, hs, _, _, _ => cases hs
    | .inl (.float _) :: _, hs, _, _, _ => cases hs
    | .inl (.double _) :: _, hs, _, _, _ => cases hs
    | .inl .null :: _, hs, _, _, _ => cases hs
    | .inl (.ref _) :: _, hs, _, _, _ => cases hs
    | .inl (.retAddr _) :: _, hs, _, _, _ => cases hs
  · -- add
    rename_i i n e1
    simp only [Bool.and_eq_true] at hk
    have k1 : _ ≤ zMt.2.2.2.2.1 mi := Nat.le_of_ble_eq_true hk.2.1
    have k2 : _ ≤ zMt.2.2.2.2.2 mi := Nat.le_of_ble_eq_true hk.2.2
    have hz3 : zlen o.1.1 = 5 := by rw [e1]; rfl
    rw [e1] at hd
    rw [hz3] at kk
    have hlink : Cond.methodLink (zMt.1 mi).cls i zlA ∈ zTs := by
      rw [hcls (Nat.eq_of_beq_eq_true hk.1.1) rfl, Nat.eq_of_beq_eq_true hk.1.2]
      exact zj_kA
    match st, hs, hv, h5, hz with
    | .inr (k', j') :: .inr (k, j) :: st2, hs, hv, h5, hz =>
      have hs : (bif ztg k == 9 && ztg k' == 0 && (zkc k' == zel k && zelB h k j) then (if zi h k j 1 = 1 ∧ zln h k j < 33 then
        some (pc + 1, L, zI 1 :: st2, if zcap (zln h k j) = zln h k j then zro (zadd h k j (k', j')) 1 (zcap (zln h k j + 1)) else zadd h k j (k', j')) else none) else none) = some (pc', L', st', h') := hs
      cases hq0 : ztg k == 9 && ztg k' == 0 && (zkc k' == zel k && zelB h k j) with
      | false => rw [hq0] at hs; cases hs
      | true =>
        rw [hq0, cond_true] at hs
        simp only [Bool.and_eq_true] at hq0
        have h9 : ztg k = 9 := eq_of_beq hq0.1.1
        have h0 : ztg k' = 0 := eq_of_beq hq0.1.2
        have hel0 : zkc k' = zel k := eq_of_beq hq0.2.1
        have hel1 := List.all_eq_true.mp hq0.2.2
        split at hs
        · rename_i h01
          simp only [Option.some.injEq, Prod.mk.injEq] at hs
          obtain ⟨rfl, rfl, rfl, rfl⟩ := hs
          refine ⟨rfl, rfl, ?_⟩
          obtain ⟨hk9, hx⟩ := zok_ex (hv (.inr (k, j)) (List.mem_cons_of_mem _ List.mem_cons_self)) (by rw [h9]; decide)
          have hvk : zok h (k', j') := hv (.inr (k', j')) List.mem_cons_self
          obtain ⟨hk0, hxv⟩ := zok_ex (hv (.inr (k', j')) List.mem_cons_self) (by rw [h0]; decide)
          have he := hw.1 k j hx
          have hev := hw.1 k' j' hxv
          rw [zent_obj hk0 h0] at hev
          rw [zent_list hk9 h9, h01.1, if_neg (by decide)] at he
          have hci := zkc_lt h0
          obtain ⟨C, T, N, ty0, g1, g2, g3, g4, g5, g6⟩ := zcl_ok _ hci
          have hca : ∀ s, X s → va_Nw (.castable C "java/lang/Object") s := fun s hs => hXN s hs _ (zCO_in hci g1)
          have hne : pos k' j' ≠ pos k j := fun z => by
            have := (hw.2.1 _ _ _ _ hxv hx z).1
            rw [this, h9] at h0
            cases h0
          have hl1 := (List.getElem?_eq_some_iff.mp he).1
          have hq := zM_sum (ρ := ρ) st2
          have h6 : st2.length + 2 ≤ 5 := h5
          have hcb := zcap_b (zln h k j) h01.2
          by_cases hcap : zcap (zln h k j) = zln h k j
          · -- a new array
            rw [if_pos hcap] at hrc hrs kk
            have ece : zce (zro (zadd h k j (k', j')) 1 (zcap (zln h k j + 1))) = zce h + 1 := rfl
            have eso : zso (zro (zadd h k j (k', j')) 1 (zcap (zln h k j + 1))) = zso h + zcap (zln h k j + 1) := rfl
            rw [ece] at hrc kk
            rw [eso] at hrs kk
            obtain ⟨b, hb⟩ : ∃ b, (if zln h k j = 0 then Value.ref G.2.2.1 else .ref (ρ (k + 1000) j)) = .ref b := by
              split
              · exact ⟨_, rfl⟩
              · exact ⟨_, rfl⟩
            rw [hb] at he
            have hw1 : (ws.set (pos k j) (ρ k j, .inr (13, [.int (nI (zln h k j) + 1), .ref b, .int (nI (zln h k j))])))[pos k j]? = some ((ρ k j, .inr (13, [.int (nI (zln h k j) + 1), .ref b, .int (nI (zln h k j))])) : Nat × va_E) := List.getElem?_set_self hl1
            have hfull := zjb_full (l := l) (ci := zkc k') (C := C) (T := T) (NN := N) (f := fun j1 => if j1 < zln h k j then (zr h k j j1).map (fun q => ρ q.1 q.2) else none) hok hXL h01.2 hcap hw1
              (fun z => by rw [if_pos z] at hb; cases hb; rfl)
              (fun z => by
                rw [if_neg (by omega)] at hb
                cases hb
                have hb2 := hw.1 _ _ (zex_back.mpr ⟨h9, ((zex_lt hk9).mp hx).2.2, z⟩)
                rw [zent_back, hcap] at hb2
                exact ⟨pos (k + 1000) j, by rw [List.getElem?_set_ne (fun z2 => by have := (hw.2.1 _ _ _ _ hx (zex_back.mpr ⟨h9, ((zex_lt hk9).mp hx).2.2, z⟩) z2).1; omega)]; exact hb2⟩)
              (fun j1 z => if_neg (by omega)) g1
              (fun j1 z y hy => by
                rw [if_pos z] at hy
                have h1 := hel1 j1 (List.mem_range.mpr z)
                cases hr : zr h k j j1 with
                | none =>
                  rw [hr] at hy
                  cases hy
                | some q =>
                  rw [hr] at hy h1
                  cases hy
                  dsimp only at h1
                  rw [Bool.and_eq_true] at h1
                  have t0 : ztg q.1 = 0 := eq_of_beq h1.1
                  have t1 : zkc q.1 = zel k := eq_of_beq h1.2
                  obtain ⟨hkq, hxq⟩ := zok_ex (h := h) (k := q.1) (i := q.2) (hw.2.2.1 _ _ _ _ hr) (by rw [t0]; decide)
                  have heq := hw.1 _ _ hxq
                  rw [zent_obj hkq t0, t1, ← hel0] at heq
                  exact ⟨pos q.1 q.2, _, (List.getElem?_set_ne (fun z2 => by have := (hw.2.1 _ _ _ _ hx hxq z2).1; rw [← this, h9] at t0; cases t0)).trans heq⟩) hca
            refine zJF (as := [.ref (ρ k' j')]) (rest := zM ρ st2) (a := ρ k j) (x := zlA) hJ hok zJy_ad (zjb_ad hok he (zjb_ad3G (qk := pos k' j') hok hXL hw1 (by
                by_cases z : zln h k j = 0
                · left
                  rw [if_pos z] at hb
                  cases hb
                  exact ⟨rfl, z⟩
                · right
                  rw [if_neg z] at hb
                  cases hb
                  have hxb := zex_back.mpr ⟨h9, ((zex_lt hk9).mp hx).2.2, Nat.pos_of_ne_zero z⟩
                  have hb2 := hw.1 _ _ hxb
                  rw [zent_back, hcap] at hb2
                  exact ⟨pos (k + 1000) j, _, by rw [List.getElem?_set_ne (fun z2 => by have := (hw.2.1 _ _ _ _ hx hxb z2).1; omega)]; exact hb2⟩)
              (by rw [List.getElem?_set_ne (Ne.symm hne)]; exact hev) hne g1 hca hcb.2.2.1 (by omega) hfull)) (Nat.le_of_ble_eq_true rfl) ⟨by decide +kernel, by decide +kernel, by show Option.map (fun d => d.parameters.length) (parseMethodDescriptor zlA.desc) = some 1; decide +kernel⟩ (hXL s c13).2.2.2.2.2.1 hlink zj_iA zj_lA hlf (va_recv c12.1 hP (q := (RJx4a65c, TJx4a65c, 3)) rfl he) (by omega) (by omega) hS ⟨hP, hD⟩ hls (by omega) hd (by omega) (by omega) (fun v H1 locs1 hv1 hS1 => ?_)
            obtain ⟨rfl, q, hP1, hD1⟩ := hv1
            rw [List.set_set, nI_1] at hP1 hD1
            obtain ⟨ag, hR1⟩ := (zRel_addG (v := (k', j')) hw hx h9 h01.1 hvk rfl hP1 hD1).imp id (zRel_zro 1 (zcap (zln h k j + 1)))
            have k9 := kk _ H1 locs1 (cells + 1) (slots + zcap (zln h k j + 1)) ag hS1 hR1 (fun v hz => by
              rcases List.mem_cons.mp hz with rfl | hz
              · trivial
              · have h7 := hv v (List.mem_cons_of_mem _ (List.mem_cons_of_mem _ hz))
                match v, h7 with
                | .inr q2, h7 => exact zok_addc (k := k) (i := j) (v := (k', j')) (c := 1) (n := zcap (zln h k j + 1)) (q := q2) h7
                | .inl (.int _), _ => trivial
                | .inl (.long _), _ => trivial
                | .inl (.float _), _ => trivial
                | .inl (.double _), _ => trivial
                | .inl .null, _ => trivial) (by omega) (by omega)
            have e9 : zM (z2 ρ (k + 1000) j q) (zI 1 :: st2) = .int 1 :: zM ρ st2 := congrArg (Value.int 1 :: ·) (ag.M (fun v hz => hv v (List.mem_cons_of_mem _ (List.mem_cons_of_mem _ hz))))
            rw [e9] at k9
            exact k9
          · -- room
            rw [if_neg hcap] at hrc hrs kk
            have ece : zce (zadd h k j (k', j')) = zce h := rfl
            have eso : zso (zadd h k j (k', j')) = zso h := rfl
            rw [ece] at hrc kk
            rw [eso] at hrs kk
            obtain ⟨n0, n1, n2⟩ := hcb.2.1 hcap
            rw [if_neg (by omega)] at he
            have hxb := zex_back.mpr ⟨h9, ((zex_lt hk9).mp hx).2.2, n0⟩
            have hb2 := hw.1 _ _ hxb
            rw [zent_back] at hb2
            have hne2 : pos k j ≠ pos (k + 1000) j := fun z2 => by have := (hw.2.1 _ _ _ _ hx hxb z2).1; omega
            have hw1 : (ws.set (pos k j) (ρ k j, .inr (13, [.int (nI (zln h k j) + 1), .ref (ρ (k + 1000) j), .int (nI (zln h k j))])))[pos k j]? = some ((ρ k j, .inr (13, [.int (nI (zln h k j) + 1), .ref (ρ (k + 1000) j), .int (nI (zln h k j))])) : Nat × va_E) := List.getElem?_set_self hl1
            have hcl := zcap_le (zln h k j) (by omega)
            refine zJF (as := [.ref (ρ k' j')]) (rest := zM ρ st2) (a := ρ k j) (x := zlA) hJ hok zJy_ad (zjb_ad hok he (zjb_ad3R (q2 := pos (k + 1000) j) (qk := pos k' j') hXL hw1 (by rw [List.getElem?_set_ne hne2]; exact hb2) (by rw [List.getElem?_set_ne (Ne.symm hne)]; exact hev) g1 hca n1 (by omega))) (Nat.le_of_ble_eq_true rfl) ⟨by decide +kernel, by decide +kernel, by show Option.map (fun d => d.parameters.length) (parseMethodDescriptor zlA.desc) = some 1; decide +kernel⟩ (hXL s c13).2.2.2.2.2.1 hlink zj_iA zj_lA hlf (va_recv c12.1 hP (q := (RJx4a65c, TJx4a65c, 3)) rfl he) (by omega) (by omega) hS ⟨hP, hD⟩ hls (by omega) hd (by omega) (by omega) (fun v H1 locs1 hv1 hS1 => ?_)
            obtain ⟨rfl, hP1, hD1⟩ := hv1
            rw [zset3 hne2, nI_1] at hP1 hD1
            have hR1 := zRel_addR (v := (k', j')) hw hx h9 h01.1 n0 n2 hvk rfl hP1 hD1
            exact kk ρ H1 locs1 (cells + 0) (slots + 0) (fun _ _ _ _ => rfl) hS1 hR1 (fun v hz => by
              rcases List.mem_cons.mp hz with rfl | hz
              · trivial
              · have h7 := hv v (List.mem_cons_of_mem _ (List.mem_cons_of_mem _ hz))
                match v, h7 with
                | .inr q2, h7 => exact zok_add (k := k) (i := j) (v := (k', j')) (q := q2) h7
                | .inl (.int _), _ => trivial
                | .inl (.long _), _ => trivial
                | .inl (.float _), _ => trivial
                | .inl (.double _), _ => trivial
                | .inl .null, _ => trivial) rfl rfl
        · cases hs
    | [], hs, _, _, _ => cases hs
    | [.inr _], hs, _, _, _ => cases hs
    | .inr _ :: .inl _ :: _, hs, _, _, _ => cases hs
    | .inl _ :: _, hs, _, _, _ => cases hs
  · -- copyOf
    rename_i i e1
    simp only [Bool.and_eq_true] at hk
    have k1 : _ ≤ zMt.2.2.2.2.1 mi := Nat.le_of_ble_eq_true hk.2.1
    have k2 : _ ≤ zMt.2.2.2.2.2 mi := Nat.le_of_ble_eq_true hk.2.2
    have hz3 : zlen o.1.1 = 3 := by rw [e1]; rfl
    rw [e1] at hd
    rw [hz3] at kk
    have hlink : Cond.methodLink (zMt.1 mi).cls i yJ7_copyOf_59c91 ∈ zTs := by
      rw [hcls (Nat.eq_of_beq_eq_true hk.1.1) rfl, Nat.eq_of_beq_eq_true hk.1.2]
      exact zj_k1139
    match st, hs, hv, h5, hz with
    | .inl (.int x) :: .inr (k, j) :: st2, hs, hv, h5, hz =>
      have hs : (bif ztg k == 1 then (if x < 0 ∨ 100000 < x.toNatClampNeg ∨ x.toNatClampNeg ≤ zln h k j then none else
        some (pc + 1, L, zR 32 (zct h 32) :: st2, znwi h 32 x.toNatClampNeg x.toNatClampNeg (fun j1 => if j1 < zln h k j then zi h k j j1 else 0))) else none) = some (pc', L', st', h') := hs
      cases h9 : ztg k == 1 with
      | false => rw [h9] at hs; cases hs
      | true =>
        rw [h9, cond_true] at hs
        have h9 : ztg k = 1 := eq_of_beq h9
        split at hs
        · cases hs
        · rename_i hin
          simp only [Option.some.injEq, Prod.mk.injEq] at hs
          obtain ⟨rfl, rfl, rfl, rfl⟩ := hs
          refine ⟨rfl, rfl, ?_⟩
          have hx0 : ¬ x < 0 := fun z => hin (Or.inl z)
          have hx1 : x.toNatClampNeg ≤ 100000 := Nat.not_lt.mp fun z => hin (Or.inr (Or.inl z))
          have hx2 : zln h k j < x.toNatClampNeg := Nat.not_le.mp fun z => hin (Or.inr (Or.inr z))
          obtain ⟨hk9, hx⟩ := zok_ex (hv (.inr (k, j)) (List.mem_cons_of_mem _ List.mem_cons_self)) (by rw [h9]; decide)
          have he := hw.1 k j hx
          rw [zent_a1 hk9 h9] at he
          obtain ⟨jx, hjx1, rfl⟩ := nI_of hx0
          have ecl : (nI jx).toNatClampNeg = jx := nI_clamp hjx1
          rw [ecl] at hx1 hx2 hrc hrs kk
          have hq := zM_sum (ρ := ρ) st2
          have h6 : st2.length + 2 ≤ 5 := h5
          have ece : zce (znwi h 32 jx jx (fun j1 => if j1 < zln h k j then zi h k j j1 else 0)) = zce h + 1 := rfl
          have eso : zso (znwi h 32 jx jx (fun j1 => if j1 < zln h k j then zi h k j j1 else 0)) = zso h + jx := rfl
          rw [ece] at hrc kk
          rw [eso] at hrs kk
          refine zJS (as := [.ref (ρ k j), .int (nI jx)]) (rest := zM ρ st2) hJ hok zJy_cpi (zjb_cpi he hx2 hx1) (Nat.le_of_ble_eq_true rfl) hlink zj_k1140 (by omega) (by omega) hS ⟨hP, hD⟩ hls (by omega) hd (by omega) (by omega) (fun v H1 locs1 hv1 hS1 => ?_)
          obtain ⟨q, rfl, hP1, hD1⟩ := hv1
          obtain ⟨a1, a2, a3, a4⟩ := zRelw.alloc (sl := jx) (g := fun j1 => if j1 < zln h k j then zi h k j j1 else 0) (n := jx) (k := 32) hw (by decide) (by decide) (by decide) (fun z => absurd z (by decide)) hP1 hD1 (by
            rw [zent_a1 (by decide) (by decide)]
            have e5 : zln (znwi h 32 jx jx (fun j1 => if j1 < zln h k j then zi h k j j1 else 0)) 32 (zct h 32) = jx := z2_self
            have e6 : zi (znwi h 32 jx jx (fun j1 => if j1 < zln h k j then zi h k j j1 else 0)) 32 (zct h 32) = fun j1 => if j1 < zln h k j then zi h k j j1 else 0 := z0_self
            rw [e5, e6]
            have e7 : va_cpy (zi h k j) (fun _ => 0) 0 0 (zln h k j) = fun j1 => if j1 < zln h k j then zi h k j j1 else 0 := by
              funext j1
              unfold va_cpy
              by_cases z : j1 < zln h k j
              · rw [if_pos ⟨Nat.zero_le _, by omega⟩, if_pos z, Nat.sub_zero, Nat.zero_add]
              · rw [if_neg (fun z2 => z (by omega)), if_neg z]
            rw [e7])
          have k9 := kk _ H1 locs1 (cells + 1) (slots + jx) a1 hS1 a2 (fun v hz => by
            rcases List.mem_cons.mp hz with rfl | hz
            · exact a4
            · have h7 := hv v (List.mem_cons_of_mem _ (List.mem_cons_of_mem _ hz))
              match v, h7 with
              | .inr q2, h7 => exact a3 _ h7
              | .inl (.int _), _ => trivial
              | .inl (.long _), _ => trivial
              | .inl (.float _), _ => trivial
              | .inl (.double _), _ => trivial
              | .inl .null, _ => trivial) (by omega) (by omega)
          have e9 : zM (z2 ρ 32 (zct h 32) q) (zR 32 (zct h 32) :: st2) = .ref q :: zM ρ st2 := by
            show Value.ref (z2 ρ 32 (zct h 32) q 32 (zct h 32)) :: zM _ st2 = _
            rw [z2_self, a1.M (fun v hz => hv v (List.mem_cons_of_mem _ (List.mem_cons_of_mem _ hz)))]
          rw [e9] at k9
          exact k9
    | [], hs, _, _, _ => cases hs
    | [.inl (.int _)], hs, _, _, _ => cases hs
    | .inl (.int _) :: .inl _ :: _, hs, _, _, _ => cases hs
    | .inr _ :: _, hs, _, _, _ => cases hs
    | .inl (.long _) :: _, hs, _, _, _ => cases hs
    | .inl (.float _) :: _, hs, _, _, _ => cases hs
    | .inl (.double _) :: _, hs, _, _, _ => cases hs
    | .inl .null :: _, hs, _, _, _ => cases hs
    | .inl (.ref _) :: _, hs, _, _, _ => cases hs
    | .inl (.retAddr _) :: _, hs, _, _, _ => cases hs
  · -- min
    rename_i i e1
    simp only [Bool.and_eq_true] at hk
    have k1 : _ ≤ zMt.2.2.2.2.1 mi := Nat.le_of_ble_eq_true hk.2.1
    have k2 : _ ≤ zMt.2.2.2.2.2 mi := Nat.le_of_ble_eq_true hk.2.2
    have hz3 : zlen o.1.1 = 3 := by rw [e1]; rfl
    rw [e1] at hd
    rw [hz3] at kk
    match st, hs, hv, h5, hz with
    | .inl (.int y) :: .inl (.int x) :: st2, hs, hv, h5, hz =>
      have hs : some (pc + 1, L, zI (if y < x then y else x) :: st2, h) = some (pc', L', st', h') := hs
      simp only [Option.some.injEq, Prod.mk.injEq] at hs
      obtain ⟨rfl, rfl, rfl, rfl⟩ := hs
      refine ⟨rfl, rfl, ?_⟩
      have hq := zM_sum (ρ := ρ) st2
      have h6 : st2.length + 2 ≤ 5 := h5
      exact va_mmin c1 c2 hsz.symm c4 (c5 _ (zOL_in zML_b hown hk.1)) (c5 _ zj_l601) (c5 _ zj_l99) (c5 _ zj_l602) (by omega) (by show ((zM ρ st2).map fun v => v.category).sum + 13 ≤ _; omega) (by omega) (by omega) hd (kk ρ H locs cells slots (fun _ _ _ _ => rfl) hS hR (fun v hz => (List.mem_cons.mp hz).elim (fun z => z ▸ trivial) (fun z => hv v (List.mem_cons_of_mem _ (List.mem_cons_of_mem _ z)))) rfl rfl)
    | [], hs, _, _, _ => cases hs
    | [.inl (.int _)], hs, _, _, _ => cases hs
    | .inl (.int _) :: .inr _ :: _, hs, _, _, _ => cases hs
    | .inl (.int _) :: .inl (.long _) :: _, hs, _, _, _ => cases hs
    | .inl (.int _) :: .inl (.float _) :: _, hs, _, _, _ => cases hs
    | .inl (.int _) :: .inl (.double _) :: _, hs, _, _, _ => cases hs
    | .inl (.int _) :: .inl .null :: _, hs, _, _, _ => cases hs
    | .inl (.int _) :: .inl (.ref _) :: _, hs, _, _, _ => cases hs
    | .inl (.int _) :: .inl (.retAddr _) :: _, hs, _, _, _ => cases hs
    | .inr _ :: _, hs, _, _, _ => cases hs
    | .inl (.long _) :: _, hs, _, _, _ => cases hs
    | .inl (.float _) :: _, hs, _, _, _ => cases hs
    | .inl (.double _) :: _, hs, _, _, _ => cases hs
    | .inl .null :: _, hs, _, _, _ => cases hs
    | .inl (.ref _) :: _, hs, _, _, _ => cases hs
    | .inl (.retAddr _) :: _, hs, _, _, _ => cases hs
  · cases hk
