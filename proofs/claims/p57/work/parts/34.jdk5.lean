/-! Adding to a list; a copy of an int array. -/
section ZJN
variable {l : Launch} {G : zG} {X : State → Prop} {mi : Nat}
theorem zne_w {ws : va_W} {q1 q2 : Nat} {a b : Nat} {x : Nat × List Value} {y : ClassId × vp_A} (h1 : ws[q1]? = some (a, .inr x)) (h2 : ws[q2]? = some (b, .inl y)) : q2 ≠ q1 := by
  rintro rfl
  rw [h1] at h2
  cases h2
theorem zjb_ad3R (hXL : ∀ s, X s → zXL G mi s) {ws : va_W} {q1 q2 qk a b v n s0 ci : Nat} {c0 : Int32} {f : Nat → Option Nat} {vs : List Value} {C : String} {T : u_T} {NN : Nat} (hw : ws[q1]? = some (a, .inr (13, [.int c0, .ref b, .int (nI s0)]))) (hw2 : ws[q2]? = some (b, .inl (G.2.1 8, zAr n f)))
    (hv : ws[qk]? = some (v, .inr (ci, vs))) (hci : zcl[ci]? = some (C, T, NN)) (hca : ∀ s, X s → va_Nw (.castable C "java/lang/Object") s) (hs : s0 < n) (hn : n ≤ 100) :
    zJb l G X yJx4a65c_add_72be8 cJx4a65c_add_72be8 4 none 5 130 0 0 [.ref a, .ref v, .ref b, .int (nI s0)] (zPD G ws) (fun r H => r = none ∧ zPD G ((ws.set q2 (b, .inl (G.2.1 8, zAr n (va_up f s0 (some v))))).set q1 (a, .inr (13, [.int c0, .ref b, .int (nI (s0 + 1))]))) H) := by
  intro p e R s m below meth c ls hC hΨ hmc hms hls
  obtain ⟨hx, hb, hml, hown, hts, hret, hlk, hfr, hlo, hE, hX⟩ := id hC
  have hc0 : (nI s0).toNatClampNeg = s0 := nI_clamp (by omega)
  refine lv_iload_n hx hb dJx4a65c_add_72be8_0 rfl (lv_at hls 3 rfl) ?_
  refine lv_aload_n hx hb dJx4a65c_add_72be8_1 rfl (lv_at hls 2 rfl) ?_
  refine va_alen (D := G.1) (cl := zcl) (tys := ztys G.2.1) hx hb hE.1 hΨ.1 q2 8 hw2 rfl (v := nI n) rfl dJx4a65c_add_72be8_2 ?_
  refine lv_icmp_ne hx hb (tgt := 11) dJx4a65c_add_72be8_3 (by decide) (fun _ => ?_) (fun z => absurd ((nI_eq (by omega) (by omega)).mp z) (by omega))
  refine lv_aload_n hx hb dJx4a65c_add_72be8_11 rfl (lv_at hls 2 rfl) ?_
  refine lv_iload_n hx hb dJx4a65c_add_72be8_12 rfl (lv_at hls 3 rfl) ?_
  refine lv_aload_n hx hb dJx4a65c_add_72be8_13 rfl (lv_at hls 1 rfl) ?_
  refine va_astqO (D := G.1) (cl := zcl) (tys := ztys G.2.1) hx hb hE.1 hΨ.1 hΨ.2 va_S.rf q2 8 qk ci hw2 rfl (hca s hX) hv hci (vp_in_nI hs (by omega)) dJx4a65c_add_72be8_14 (fun H1 locs1 hP1 hD1 hS1 => ?_)
  rw [hc0] at hP1 hD1
  refine lv_aload_n hx hb dJx4a65c_add_72be8_15 rfl (lv_at hls 0 rfl) ?_
  refine lv_iload_n hx hb dJx4a65c_add_72be8_16 rfl (lv_at hls 3 rfl) ?_
  refine lv_iconst hx hb dJx4a65c_add_72be8_17 rfl ?_
  refine lv_iadd hx hb dJx4a65c_add_72be8_18 ?_
  refine va_put (D := G.1) (cl := zcl) (tys := ztys G.2.1) (ci := 13) (v := .int (nI s0 + 1)) hx hb hts zAL tyJx4a65c tyJx4a65c_ok nmJx4a65c hown hE.1 hP1 hD1 hS1 q1 (by rw [List.getElem?_set_ne (zne_w hw hw2)]; exact hw) rfl 2 (by decide) (hts _ zj_l135) (fun _ z => z) rfl (tyJx4a65c_ok 2 (by decide)) rfl rfl (Nat.le_of_ble_eq_true rfl) dJx4a65c_add_72be8_19 (fun H2 locs2 hP2 hD2 hS2 => ?_)
  rw [nI_1] at hP2 hD2
  exact vx_ret (W.vret hx hb hret (fun t ht _ => ⟨none, rfl, ⟨rfl, by rw [ht]; exact ⟨hP2, hD2⟩⟩, hS2.F ht⟩) hS2.2.2 dJx4a65c_add_72be8_22)
theorem zjb_ad3G (hok : zXok G X) (hXL : ∀ s, X s → zXL G mi s) {ws : va_W} {q1 qk a b v s0 N ci mc ms : Nat} {c0 : Int32} {g : Nat → Option Nat} {vs : List Value} {C : String} {T : u_T} {NN : Nat} (hw : ws[q1]? = some (a, .inr (13, [.int c0, .ref b, .int (nI s0)])))
    (hb2 : (b = G.2.2.1 ∧ s0 = 0) ∨ ∃ (q2 : Nat) (f : Nat → Option Nat), ws[q2]? = some (b, .inl (G.2.1 8, zAr s0 f))) (hv : ws[qk]? = some (v, .inr (ci, vs))) (hqk : qk ≠ q1) (hci : zcl[ci]? = some (C, T, NN)) (hca : ∀ s, X s → va_Nw (.castable C "java/lang/Object") s) (hs : s0 < N) (hN : N ≤ 100)
    (hj : zJb l G X yJx4a65c_grow_d5877 cJx4a65c_grow_d5877 1 (some (.array (.object "java/lang/Object"))) 4 105 mc ms [.ref a] (zPD G ws) (fun r H => ∃ q, r = some (.ref q) ∧ zPD G ((ws ++ [((q, .inl (G.2.1 8, zAr N g)) : Nat × va_E)]).set q1 (a, .inr (13, [.int c0, .ref q, .int (nI s0)]))) H)) :
    zJb l G X yJx4a65c_add_72be8 cJx4a65c_add_72be8 4 none 5 130 mc ms [.ref a, .ref v, .ref b, .int (nI s0)] (zPD G ws) (fun r H => r = none ∧ ∃ q, zPD G (ws.set q1 (a, .inr (13, [.int c0, .ref q, .int (nI (s0 + 1))])) ++ [((q, .inl (G.2.1 8, zAr N (va_up g s0 (some v)))) : Nat × va_E)]) H) := by
  intro p e R s m below meth c ls hC hΨ hmc hms hls
  obtain ⟨hx, hb, hml, hown, hts, hret, hlk, hfr, hlo, hE, hX⟩ := id hC
  have hc0 : (nI s0).toNatClampNeg = s0 := nI_clamp (by omega)
  have hl1 := (List.getElem?_eq_some_iff.mp hw).1
  refine lv_iload_n hx hb dJx4a65c_add_72be8_0 rfl (lv_at hls 3 rfl) ?_
  refine lv_aload_n hx hb dJx4a65c_add_72be8_1 rfl (lv_at hls 2 rfl) ?_
  have key : W p l e R s m [Value.ref a, .ref v, .ref b, .int (nI s0)].toArray below meth c s.heap [] 0 0 (vx_MQ below (zJQ G (fun r H => r = none ∧ ∃ q, zPD G (ws.set q1 (a, .inr (13, [.int c0, .ref q, .int (nI (s0 + 1))])) ++ [((q, .inl (G.2.1 8, zAr N (va_up g s0 (some v)))) : Nat × va_E)]) H)) (fun _ _ _ => False) [Value.ref a, .ref v, .ref b, .int (nI s0)].toArray s mc ms G.2.2.2.1) (F0 m 3 ls (.int (nI s0) :: .int (nI s0) :: [])) := by
    refine lv_icmp_ne hx hb (tgt := 11) dJx4a65c_add_72be8_3 (by decide) (fun z => absurd rfl z) (fun _ => ?_)
    refine lv_aload_n hx hb dJx4a65c_add_72be8_6 rfl (lv_at hls 0 rfl) ?_
    refine zJV (as := []) (rest := []) hC hok zJy_g0 hj (Nat.le_of_ble_eq_true rfl) zj_l552 zj_l554 zj_s2 (va_recv hE.1 hΨ.1 (q := (RJx4a65c, TJx4a65c, 3)) rfl hw) (by decide) (by decide) va_S.rf hΨ hls.1 (by decide) dJx4a65c_add_72be8_7 (by omega) (by omega) (fun r H1 locs1 hr hS1 => ?_)
    obtain ⟨q, rfl, hP1, hD1⟩ := hr
    rw [zset_app hw] at hP1 hD1
    refine lv_astore_n hx hb dJx4a65c_add_72be8_10 rfl hls (by decide) rfl (fun ls1 hls1 => ?_)
    refine lv_aload_n hx hb dJx4a65c_add_72be8_11 rfl (lv_at hls1 0 rfl) ?_
    refine lv_iload_n hx hb dJx4a65c_add_72be8_12 rfl (lv_at hls1 3 rfl) ?_
    refine lv_aload_n hx hb dJx4a65c_add_72be8_13 rfl (lv_at hls1 2 rfl) ?_
    have hlast : (ws.set q1 (a, .inr (13, [.int c0, .ref q, .int (nI s0)])) ++ [((q, .inl (G.2.1 8, zAr N g)) : Nat × va_E)])[ws.length]? = some (q, .inl (G.2.1 8, zAr N g)) := by
      have := zget_last (ws.set q1 (a, .inr (13, [.int c0, .ref q, .int (nI s0)]))) ((q, .inl (G.2.1 8, zAr N g)) : Nat × va_E)
      rw [List.length_set] at this
      exact this
    have hvk : (ws.set q1 (a, .inr (13, [.int c0, .ref q, .int (nI s0)])) ++ [((q, .inl (G.2.1 8, zAr N g)) : Nat × va_E)])[qk]? = some (v, .inr (ci, vs)) := zget_app (by rw [List.getElem?_set_ne (Ne.symm hqk)]; exact hv)
    refine va_astqO (D := G.1) (cl := zcl) (tys := ztys G.2.1) hx hb hE.1 hP1 hD1 hS1 ws.length 8 qk ci hlast rfl (hca s hX) hvk hci (vp_in_nI hs (by omega)) dJx4a65c_add_72be8_14 (fun H2 locs2 hP2 hD2 hS2 => ?_)
    rw [hc0] at hP2 hD2
    have e9 : ∀ z : Nat × va_E, (ws.set q1 (a, .inr (13, [.int c0, .ref q, .int (nI s0)])) ++ [((q, .inl (G.2.1 8, zAr N g)) : Nat × va_E)]).set ws.length z = ws.set q1 (a, .inr (13, [.int c0, .ref q, .int (nI s0)])) ++ [z] := by
      intro z
      have := zset_last (ws.set q1 (a, .inr (13, [.int c0, .ref q, .int (nI s0)]))) ((q, .inl (G.2.1 8, zAr N g)) : Nat × va_E) z
      rw [List.length_set] at this
      exact this
    rw [e9] at hP2 hD2
    refine lv_aload_n hx hb dJx4a65c_add_72be8_15 rfl (lv_at hls1 1 rfl) ?_
    refine lv_iload_n hx hb dJx4a65c_add_72be8_16 rfl (lv_at hls1 3 rfl) ?_
    refine lv_iconst hx hb dJx4a65c_add_72be8_17 rfl ?_
    refine lv_iadd hx hb dJx4a65c_add_72be8_18 ?_
    have hq1 : (ws.set q1 (a, .inr (13, [.int c0, .ref q, .int (nI s0)])))[q1]? = some ((a, .inr (13, [.int c0, .ref q, .int (nI s0)])) : Nat × va_E) := List.getElem?_set_self hl1
    refine va_put (D := G.1) (cl := zcl) (tys := ztys G.2.1) (ci := 13) (v := .int (nI s0 + 1)) hx hb hts zAL tyJx4a65c tyJx4a65c_ok nmJx4a65c hown hE.1 hP2 hD2 hS2 q1 (zget_app hq1) rfl 2 (by decide) (hts _ zj_l135) (fun _ z => z) rfl (tyJx4a65c_ok 2 (by decide)) rfl rfl (Nat.le_of_ble_eq_true rfl) dJx4a65c_add_72be8_19 (fun H3 locs3 hP3 hD3 hS3 => ?_)
    rw [nI_1, zset_app hq1, List.set_set] at hP3 hD3
    rw [Nat.zero_add mc, Nat.zero_add ms]
    exact vx_ret (W.vret hx hb hret (fun t ht _ => ⟨none, rfl, ⟨rfl, q, by rw [ht]; exact ⟨hP3, hD3⟩⟩, hS3.F ht⟩) hS3.2.2 dJx4a65c_add_72be8_22)
  rcases hb2 with ⟨rfl, rfl⟩ | ⟨q2, f, hw2⟩
  · obtain ⟨cell, k1, k2, k3⟩ := zDF_at (hXL s hX).2.1 (va_S.rf (A := G.2.2.2.1) (H0 := s.heap))
    exact W.alen (n := nI 0) hx hb k1 k2 (by rw [k3]; rfl) rfl rfl dJx4a65c_add_72be8_2 key
  · exact va_alen (D := G.1) (cl := zcl) (tys := ztys G.2.1) hx hb hE.1 hΨ.1 q2 8 hw2 rfl (v := nI s0) rfl dJx4a65c_add_72be8_2 key
theorem zjb_ad (hok : zXok G X) {ws : va_W} {q1 a b v mc ms : Nat} {c0 sz : Int32} {Φ : Heap → Prop} (hw : ws[q1]? = some (a, .inr (13, [.int c0, .ref b, .int sz])))
    (hj : zJb l G X yJx4a65c_add_72be8 cJx4a65c_add_72be8 4 none 5 130 mc ms [.ref a, .ref v, .ref b, .int sz] (zPD G (ws.set q1 (a, .inr (13, [.int (c0 + 1), .ref b, .int sz])))) (fun r H => r = none ∧ Φ H)) :
    zJb l G X yJx4a65c_add_9ea2d cJx4a65c_add_9ea2d 2 (some .boolean) 6 155 mc ms [.ref a, .ref v] (zPD G ws) (fun r H => r = some (.int 1) ∧ Φ H) := by
  intro p e R s m below meth c ls hC hΨ hmc hms hls
  obtain ⟨hx, hb, hml, hown, hts, hret, hlk, hfr, hlo, hE, hX⟩ := id hC
  have hl1 := (List.getElem?_eq_some_iff.mp hw).1
  refine lv_aload_n hx hb dJx4a65c_add_9ea2d_0 rfl (lv_at hls 0 rfl) ?_
  refine lv_dup hx hb dJx4a65c_add_9ea2d_1 rfl ?_
  refine va_get (D := G.1) (cl := zcl) (tys := ztys G.2.1) (ci := 13) hx hb hts zAL hown hE.1 hΨ.1 q1 hw rfl 0 (by decide) (hts _ zj_l137) (fun x z => u_same (hts _ zj_l138) x z) rfl dJx4a65c_add_9ea2d_2 ?_
  refine lv_iconst hx hb dJx4a65c_add_9ea2d_5 rfl ?_
  refine lv_iadd hx hb dJx4a65c_add_9ea2d_6 ?_
  refine va_put (D := G.1) (cl := zcl) (tys := ztys G.2.1) (ci := 13) (v := .int (c0 + 1)) hx hb hts zAL tyJx4a65c tyJx4a65c_ok nmJx4a65c hown hE.1 hΨ.1 hΨ.2 va_S.rf q1 hw rfl 0 (by decide) (hts _ zj_l137) (fun x z => u_same (hts _ zj_l138) x z) rfl (tyJx4a65c_ok 0 (by decide)) rfl rfl (Nat.le_of_ble_eq_true rfl) dJx4a65c_add_9ea2d_7 (fun H1 locs1 hP1 hD1 hS1 => ?_)
  have hw1 : (ws.set q1 (a, .inr (13, [.int (c0 + 1), .ref b, .int sz])))[q1]? = some ((a, .inr (13, [.int (c0 + 1), .ref b, .int sz])) : Nat × va_E) := List.getElem?_set_self hl1
  refine lv_aload_n hx hb dJx4a65c_add_9ea2d_10 rfl (lv_at hls 0 rfl) ?_
  refine lv_aload_n hx hb dJx4a65c_add_9ea2d_11 rfl (lv_at hls 1 rfl) ?_
  refine lv_aload_n hx hb dJx4a65c_add_9ea2d_12 rfl (lv_at hls 0 rfl) ?_
  refine va_get (D := G.1) (cl := zcl) (tys := ztys G.2.1) (ci := 13) hx hb hts zAL hown hE.1 hP1 q1 hw1 rfl 1 (by decide) (hts _ zj_l134) (fun _ z => z) rfl dJx4a65c_add_9ea2d_13 ?_
  refine lv_aload_n hx hb dJx4a65c_add_9ea2d_16 rfl (lv_at hls 0 rfl) ?_
  refine va_get (D := G.1) (cl := zcl) (tys := ztys G.2.1) (ci := 13) hx hb hts zAL hown hE.1 hP1 q1 hw1 rfl 2 (by decide) (hts _ zj_l135) (fun _ z => z) rfl dJx4a65c_add_9ea2d_17 ?_
  refine zJV (as := [.ref v, .ref b, .int sz]) (rest := []) hC hok zJy_ad3 hj (Nat.le_of_ble_eq_true rfl) zj_l548 zj_l550 zj_s1 (va_recv hE.1 hP1 (q := (RJx4a65c, TJx4a65c, 3)) rfl hw1) (by decide) (by decide) hS1 ⟨hP1, hD1⟩ hls.1 (by decide) dJx4a65c_add_9ea2d_20 (by omega) (by omega) (fun r H2 locs2 hr hS2 => ?_)
  obtain ⟨rfl, hP2⟩ := hr
  refine lv_iconst (v := 1) hx hb dJx4a65c_add_9ea2d_23 rfl ?_
  rw [Nat.zero_add mc, Nat.zero_add ms]
  exact vx_ret (W.zret hx hb hret rfl (fun t ht _ => ⟨_, rfl, ⟨rfl, by rw [ht]; exact hP2⟩, hS2.F ht⟩) hS2.2.2 dJx4a65c_add_9ea2d_24)
theorem zjb_cpi {ws : va_W} {q2 b n0 N : Nat} {f : Nat → Int32} (hw2 : ws[q2]? = some (b, .inl (G.2.1 0, (n0, .inl f)))) (hN : n0 < N) (hN2 : N ≤ 100000) :
    zJb l G X yJ7_copyOf_59c91 cJ7_copyOf_59c91 3 (some (.array .int)) 1 30 1 N [.ref b, .int (nI N)] (zPD G ws) (fun r H => ∃ q, r = some (.ref q) ∧ zPD G (ws ++ [(q, .inl (G.2.1 0, (N, .inl (va_cpy f (fun _ => 0) 0 0 n0))))]) H) := by
  intro p e R s m below meth c ls hC hΨ hmc hms hls
  obtain ⟨hx, hb, hml, hown, hts, hret, hlk, hfr, hlo, hE, hX⟩ := id hC
  have hcN : (nI N).toNatClampNeg = N := nI_clamp (by omega)
  have hc0 : (nI n0).toNatClampNeg = n0 := nI_clamp (by omega)
  have hz0 : (0 : Int32).toNatClampNeg = 0 := by decide
  refine lv_iload_n hx hb dJ7_copyOf_59c91_0 rfl (lv_at hls 1 rfl) ?_
  refine lv_aload_n hx hb dJ7_copyOf_59c91_1 rfl (lv_at hls 0 rfl) ?_
  refine va_alen (D := G.1) (cl := zcl) (tys := ztys G.2.1) hx hb hE.1 hΨ.1 q2 0 hw2 rfl (v := nI n0) rfl dJ7_copyOf_59c91_2 ?_
  refine lv_icmp_ne hx hb (tgt := 14) dJ7_copyOf_59c91_3 (by decide) (fun _ => ?_) (fun z => absurd ((nI_eq (by omega) (by omega)).mp z) (by omega))
  refine lv_iload_n hx hb dJ7_copyOf_59c91_14 rfl (lv_at hls 1 rfl) ?_
  refine va_newa (D := G.1) (cl := zcl) (tys := ztys G.2.1) (atype := .int) (ty := .int) (a0 := (N, .inl fun _ => 0)) hx hb (hts _ zj_ai) rfl hE.1 hΨ.1 hΨ.2 va_S.rf hE.2.2.2.2 (fun cA => rfl) (nI_pos (by omega)) hcN (by show N * 4 ≤ 536870912; omega) (by omega) (by omega) dJ7_copyOf_59c91_15 (fun q cA H1 hK1 hP1 hD1 hS1 => ?_)
  obtain rfl := zAC hE (t := 0) rfl hK1
  refine lv_astore_n hx hb dJ7_copyOf_59c91_17 rfl hls (by decide) rfl (fun ls1 hl1 => ?_)
  refine lv_aload_n hx hb dJ7_copyOf_59c91_18 rfl (lv_at hl1 1 rfl) ?_
  refine lv_iconst hx hb dJ7_copyOf_59c91_19 rfl ?_
  refine lv_aload_n hx hb dJ7_copyOf_59c91_20 rfl (lv_at hl1 0 rfl) ?_
  refine lv_iconst hx hb dJ7_copyOf_59c91_21 rfl ?_
  refine lv_aload_n hx hb dJ7_copyOf_59c91_22 rfl (lv_at hl1 1 rfl) ?_
  refine va_alen (D := G.1) (cl := zcl) (tys := ztys G.2.1) hx hb hE.1 hP1 q2 0 (zget_app hw2) rfl (v := nI n0) rfl dJ7_copyOf_59c91_23 ?_
  refine lv_iload_n hx hb dJ7_copyOf_59c91_24 rfl (lv_at hl1 2 rfl) ?_
  refine va_mmin hx hb (hml.trans hl1.1.symm) hown (hts _ zj_l600) (hts _ zj_l601) (hts _ zj_l99) (hts _ zj_l602) (by omega) (by show 1 + (1 + (1 + (1 + 0))) + 13 ≤ _; omega) (by omega) (by omega) dJ7_copyOf_59c91_25 ?_
  rw [if_neg (nI_nlt (by omega) (by omega))]
  have hw9 : nativeFrameWords "java/lang/System" "arraycopy" 5 ≤ 15 := by decide
  refine va_copyi (D := G.1) (cl := zcl) (tys := ztys G.2.1) (sp := 0) (dp := 0) hx hb (hml.trans hl1.1.symm) hown (hts _ zj_l603) (hts _ zj_l605) (hts _ zj_l604) (hts _ zj_l101) hE.1 hP1 hD1 hS1 q2 ws.length 0 0 (zget_app hw2) (zget_last _ _) rfl rfl rfl (by decide) (by decide) (nI_pos (by omega)) (by rw [hc0, hz0]; omega) (by rw [hc0, hz0]; omega) (fun i hi => rfl) (by omega) (by show 0 + _ ≤ _; omega) dJ7_copyOf_59c91_28 (fun H2 locs2 hP2 hD2 hS2 => ?_)
  rw [hc0, hz0, zset_last] at hP2 hD2
  refine lv_aload_n hx hb dJ7_copyOf_59c91_31 rfl (lv_at hl1 0 rfl) ?_
  rw [Nat.zero_add N]
  exact vx_ret (W.aret (v := .ref q) hx hb hret (Or.inr ⟨_, rfl⟩) (Or.inr ⟨_, rfl⟩) (fun t ht _ => ⟨_, rfl, ⟨q, rfl, by rw [ht]; exact ⟨hP2, hD2⟩⟩, hS2.F ht⟩) hS2.2.2 dJ7_copyOf_59c91_32)
end ZJN
