/-! The lists' methods that make arrays. -/
theorem zj_ai : Cond.arrayClass .int ∈ zTs := zTs_of (List.mem_of_getElem? (i := 131) (by decide +kernel)) rfl
theorem zset_last {α : Type} (ws : List α) (x y : α) : (ws ++ [x]).set ws.length y = ws ++ [y] := by
  rw [List.set_append_right _ _ (Nat.le_refl _), Nat.sub_self]
  rfl
theorem zget_last {α : Type} (ws : List α) (x : α) : (ws ++ [x])[ws.length]? = some x := by
  rw [List.getElem?_append_right (Nat.le_refl _), Nat.sub_self]
  rfl
theorem zget_app {α : Type} {ws : List α} {x y : α} {q : Nat} (h : ws[q]? = some y) : (ws ++ [x])[q]? = some y := by
  rw [List.getElem?_append_left (List.getElem?_eq_some_iff.mp h).1]
  exact h
theorem zset_app {α : Type} {ws : List α} {x y z : α} {q : Nat} (h : ws[q]? = some y) : (ws ++ [x]).set q z = ws.set q z ++ [x] := by
  rw [List.set_append_left _ _ (List.getElem?_eq_some_iff.mp h).1]
section ZJM
variable {l : Launch} {G : zG} {X : State → Prop} {mi : Nat}
theorem zjb_nl {Ψ : Heap → Prop} {o g f r : Int32} (hr : o + (if g < f then f else g) = r) (h0 : ¬ r ≤ 0) (h1 : ¬ (2147483639 : Int32) < r) :
    zJb l G X yJ8_newLength_cabcc cJ8_newLength_cabcc 4 (some .int) 1 20 0 0 [.int o, .int g, .int f] Ψ (fun v H => v = some (.int r) ∧ Ψ H) := by
  intro p e R s m below meth c ls hC hΨ hmc hms hls
  obtain ⟨hx, hb, hml, hown, hts, hret, hlk, hfr, hlo, hE, hX⟩ := id hC
  refine lv_iload_n hx hb dJ8_newLength_cabcc_0 rfl (lv_at hls 0 rfl) ?_
  refine lv_iload_n hx hb dJ8_newLength_cabcc_1 rfl (lv_at hls 1 rfl) ?_
  refine lv_iload_n hx hb dJ8_newLength_cabcc_2 rfl (lv_at hls 2 rfl) ?_
  refine va_mmax hx hb (hml.trans hls.1.symm) hown (hts _ zj_l563) (hts _ zj_l564) (hts _ zj_l99) (hts _ zj_l565) (by omega) (by show 1 + 0 + 13 ≤ _; omega) (Nat.zero_le _) (Nat.zero_le _) dJ8_newLength_cabcc_3 ?_
  refine lv_iadd hx hb dJ8_newLength_cabcc_6 ?_
  rw [hr]
  refine lv_istore_n hx hb dJ8_newLength_cabcc_7 rfl hls (by decide) rfl (fun ls1 hl1 => ?_)
  refine lv_iconst hx hb dJ8_newLength_cabcc_8 rfl ?_
  refine lv_iload_n hx hb dJ8_newLength_cabcc_9 rfl (lv_at hl1 0 rfl) ?_
  refine lv_icmp_ge hx hb (tgt := 21) dJ8_newLength_cabcc_10 (by decide) (fun z => absurd z h0) (fun _ => ?_)
  refine lv_iload_n hx hb dJ8_newLength_cabcc_13 rfl (lv_at hl1 0 rfl) ?_
  refine lv_ldc hx hb hown (hts _ zj_l566) dJ8_newLength_cabcc_14 ?_
  refine lv_icmp_gt hx hb (tgt := 21) dJ8_newLength_cabcc_16 (by decide) (fun z => absurd z h1) (fun _ => ?_)
  refine lv_iload_n hx hb dJ8_newLength_cabcc_19 rfl (lv_at hl1 0 rfl) ?_
  exact vx_ret (W.iret hx hb hret (fun t ht _ => ⟨_, rfl, ⟨rfl, by rw [ht]; exact hΨ⟩, va_S.rf.F ht⟩) (fun _ h => absurd h List.not_mem_nil) dJ8_newLength_cabcc_20)
theorem zjb_cp3 (hXL : ∀ s, X s → zXL G mi s) {ws : va_W} {q2 b n0 N ci : Nat} {f : Nat → Option Nat} {C : String} {T : u_T} {NN : Nat} (hw2 : ws[q2]? = some (b, .inl (G.2.1 8, zAr n0 f))) (hN : n0 ≤ N) (hN2 : N ≤ 100) (hci : zcl[ci]? = some (C, T, NN))
    (hel : ∀ j, j < n0 → ∀ y, f j = some y → ∃ (qk : Nat) (vs : List Value), ws[qk]? = some (y, .inr (ci, vs))) (hca : ∀ s, X s → va_Nw (.castable C "java/lang/Object") s) :
    zJb l G X yJ7_copyOf_6403c cJ7_copyOf_6403c 4 (some (.array (.object "java/lang/Object"))) 1 30 1 N [.ref b, .int (nI N), .ref mi] (zPD G ws) (fun v H => ∃ q, v = some (.ref q) ∧ zPD G (ws ++ [(q, .inl (G.2.1 8, zAr N (va_cpy f (fun _ => none) 0 0 n0)))]) H) := by
  intro p e R s m below meth c ls hC hΨ hmc hms hls
  obtain ⟨hx, hb, hml, hown, hts, hret, hlk, hfr, hlo, hE, hX⟩ := id hC
  have hcN : (nI N).toNatClampNeg = N := nI_clamp (by omega)
  have hc0 : (nI n0).toNatClampNeg = n0 := nI_clamp (by omega)
  have hz0 : (0 : Int32).toNatClampNeg = 0 := by decide
  refine lv_aload_n hx hb dJ7_copyOf_6403c_0 rfl (lv_at hls 2 rfl) ?_
  refine va_ldcM hx hb hown (hts _ zj_l597) (hXL s hX).2.2.1 dJ7_copyOf_6403c_1 ?_
  refine lv_acmp_ne hx hb (rx := some mi) (ry := some mi) (tgt := 13) dJ7_copyOf_6403c_3 (by decide) (fun z => absurd rfl z) (fun _ => ?_)
  refine lv_iload_n hx hb dJ7_copyOf_6403c_6 rfl (lv_at hls 1 rfl) ?_
  refine va_newq (D := G.1) (cl := zcl) (tys := ztys G.2.1) hx hb hown (hts _ zj_l599) (hXL s hX).2.2.2.2.2.2.1 hE.1 hΨ.1 hΨ.2 va_S.rf hE.2.2.2.2 (nI_pos (by omega)) hcN (by omega) (by omega) (by omega) dJ7_copyOf_6403c_7 (fun q cA H1 hK1 hP1 hD1 hS1 => ?_)
  obtain rfl := zAC hE (t := 8) rfl hK1
  refine lv_goto hx hb (tgt := 24) dJ7_copyOf_6403c_10 (by decide) ?_
  refine lv_astore_n hx hb dJ7_copyOf_6403c_24 rfl hls (by decide) rfl (fun ls1 hl1 => ?_)
  refine lv_aload_n hx hb dJ7_copyOf_6403c_25 rfl (lv_at hl1 1 rfl) ?_
  refine lv_iconst hx hb dJ7_copyOf_6403c_26 rfl ?_
  refine lv_aload_n hx hb dJ7_copyOf_6403c_27 rfl (lv_at hl1 0 rfl) ?_
  refine lv_iconst hx hb dJ7_copyOf_6403c_28 rfl ?_
  refine lv_aload_n hx hb dJ7_copyOf_6403c_29 rfl (lv_at hl1 1 rfl) ?_
  refine va_alen (D := G.1) (cl := zcl) (tys := ztys G.2.1) hx hb hE.1 hP1 q2 8 (zget_app hw2) rfl (v := nI n0) rfl dJ7_copyOf_6403c_30 ?_
  refine lv_iload_n hx hb dJ7_copyOf_6403c_31 rfl (lv_at hl1 2 rfl) ?_
  refine va_mmin hx hb (hml.trans hl1.1.symm) hown (hts _ zj_l600) (hts _ zj_l601) (hts _ zj_l99) (hts _ zj_l602) (by omega) (by show 1 + (1 + (1 + (1 + 0))) + 13 ≤ _; omega) (by omega) (by omega) dJ7_copyOf_6403c_32 ?_
  rw [if_neg (nI_nlt hN (by omega))]
  have hw9 : nativeFrameWords "java/lang/System" "arraycopy" 5 ≤ 15 := by decide
  refine va_copyq (D := G.1) (cl := zcl) (tys := ztys G.2.1) (C := C) (sp := 0) (dp := 0) hx hb (hml.trans hl1.1.symm) hown (hts _ zj_l603) (hts _ zj_l605) (hts _ zj_l604) (hts _ zj_l101) hE.1 hP1 hD1 hS1 q2 ws.length 8 8 (zget_app hw2) (zget_last _ _) rfl rfl (by decide) (by decide) (nI_pos (by omega)) (by rw [hc0, hz0]; omega) (by rw [hc0, hz0]; omega) (fun i hi y hy => ?_) (fun comp c0 h1 h2 => ?_) (by omega) (by show 0 + _ ≤ _; omega) dJ7_copyOf_6403c_35 (fun H2 locs2 hP2 hD2 hS2 => ?_)
  · rw [hc0] at hi
    rw [hz0, Nat.zero_add] at hy
    obtain ⟨qk, vs, h3⟩ := hel i hi y hy
    exact va_recv hE.1 hP1 hci (zget_app h3)
  · obtain ⟨c1, t0, f1, f2, f3⟩ := Cond.castable_spec (va_Nw.use (A := [Value.ref b, .int (nI N), .ref mi].toArray) rfl (hca s hX))
    cases f1.symm.trans h2
    cases f2.symm.trans h1
    exact f3
  rw [hc0, hz0, zset_last] at hP2 hD2
  refine lv_aload_n hx hb dJ7_copyOf_6403c_38 rfl (lv_at hl1 0 rfl) ?_
  have e1 : 0 + 1 = 1 := rfl
  have e2 : 0 + N = N := Nat.zero_add N
  rw [e2]
  exact vx_ret (W.aret (v := .ref q) hx hb hret (Or.inr ⟨_, rfl⟩) (Or.inr ⟨_, rfl⟩) (fun t ht _ => ⟨_, rfl, ⟨q, rfl, by rw [ht]; exact ⟨hP2, hD2⟩⟩, hS2.F ht⟩) hS2.2.2 dJ7_copyOf_6403c_39)
theorem zjb_cp2 (hok : zXok G X) (hXL : ∀ s, X s → zXL G mi s) {ws : va_W} {q2 b n0 N ci : Nat} {f : Nat → Option Nat} {C : String} {T : u_T} {NN : Nat} (hw2 : ws[q2]? = some (b, .inl (G.2.1 8, zAr n0 f))) (hN : n0 ≤ N) (hN2 : N ≤ 100) (hci : zcl[ci]? = some (C, T, NN))
    (hel : ∀ j, j < n0 → ∀ y, f j = some y → ∃ (qk : Nat) (vs : List Value), ws[qk]? = some (y, .inr (ci, vs))) (hca : ∀ s, X s → va_Nw (.castable C "java/lang/Object") s) :
    zJb l G X yJ7_copyOf_1904c cJ7_copyOf_1904c 2 (some (.array (.object "java/lang/Object"))) 2 55 1 N [.ref b, .int (nI N)] (zPD G ws) (fun v H => ∃ q, v = some (.ref q) ∧ zPD G (ws ++ [(q, .inl (G.2.1 8, zAr N (va_cpy f (fun _ => none) 0 0 n0)))]) H) := by
  intro p e R s m below meth c ls hC hΨ hmc hms hls
  obtain ⟨hx, hb, hml, hown, hts, hret, hlk, hfr, hlo, hE, hX⟩ := id hC
  refine lv_aload_n hx hb dJ7_copyOf_1904c_0 rfl (lv_at hls 0 rfl) ?_
  refine lv_iload_n hx hb dJ7_copyOf_1904c_1 rfl (lv_at hls 1 rfl) ?_
  refine lv_aload_n hx hb dJ7_copyOf_1904c_2 rfl (lv_at hls 0 rfl) ?_
  refine va_getC hx hb (hml.trans hls.1.symm) hown (hts _ zj_l573) (va_Nw.use rfl (hXL s hX).2.2.2.2.2.2.2) (hts _ zj_l2117) (hts _ zj_l574) (hts _ zj_l593) (hXL s hX).2.2.1 ⟨_, hΨ.1 q2 _ hw2, rfl, va_nmO (hE.1.2 8 _ rfl).2 (by decide)⟩ (by omega) (by show 1 + (1 + 0) + 14 ≤ _; omega) dJ7_copyOf_1904c_3 ?_
  refine zJS (as := [.ref b, .int (nI N), .ref mi]) (rest := []) hC hok zJy_cp3 (zjb_cp3 hXL hw2 hN hN2 hci hel hca) (Nat.le_of_ble_eq_true rfl) zj_l594 zj_l595 (by decide) (by decide) va_S.rf hΨ hls.1 (by decide) dJ7_copyOf_1904c_6 (by omega) (by omega) (fun v H1 locs1 hv hS1 => ?_)
  obtain ⟨q, rfl, hP1⟩ := hv
  rw [Nat.zero_add N]
  exact vx_ret (W.aret (v := .ref q) hx hb hret (Or.inr ⟨_, rfl⟩) (Or.inr ⟨_, rfl⟩) (fun t ht _ => ⟨_, rfl, ⟨q, rfl, by rw [ht]; exact hP1⟩, hS1.F ht⟩) hS1.2.2 dJ7_copyOf_1904c_9)
theorem zjb_g1D (hXL : ∀ s, X s → zXL G mi s) {ws : va_W} {q1 a : Nat} {c0 : Int32} (hw : ws[q1]? = some (a, .inr (13, [.int c0, .ref G.2.2.1, .int 0]))) :
    zJb l G X yJx4a65c_grow_92f84 cJx4a65c_grow_92f84 4 (some (.array (.object "java/lang/Object"))) 3 80 1 10 [.ref a, .int 1] (zPD G ws) (fun v H => ∃ q, v = some (.ref q) ∧ zPD G ((ws ++ [((q, .inl (G.2.1 8, zAr 10 fun _ => none)) : Nat × va_E)]).set q1 (a, .inr (13, [.int c0, .ref q, .int 0]))) H) := by
  intro p e R s m below meth c ls hC hΨ hmc hms hls
  obtain ⟨hx, hb, hml, hown, hts, hret, hlk, hfr, hlo, hE, hX⟩ := id hC
  obtain ⟨cell, k1, k2, k3⟩ := zDF_at (hXL s hX).2.1 (va_S.rf (A := G.2.2.2.1) (H0 := s.heap))
  refine lv_aload_n hx hb dJx4a65c_grow_92f84_0 rfl (lv_at hls 0 rfl) ?_
  refine va_get (D := G.1) (cl := zcl) (tys := ztys G.2.1) (ci := 13) hx hb hts zAL hown hE.1 hΨ.1 q1 hw rfl 1 (by decide) (hts _ zj_l134) (fun _ z => z) rfl dJx4a65c_grow_92f84_1 ?_
  refine W.alen (n := 0) hx hb k1 k2 (by rw [k3]; rfl) rfl rfl dJx4a65c_grow_92f84_4 ?_
  refine lv_istore_n (pc := 5) (rest := []) hx hb dJx4a65c_grow_92f84_5 rfl hls (by decide) rfl (fun ls1 hl1 => ?_)
  refine lv_iload_n hx hb dJx4a65c_grow_92f84_6 rfl (lv_at hl1 0 rfl) ?_
  refine lv_if_gt hx hb (tgt := 20) dJx4a65c_grow_92f84_7 (by decide) (fun z => absurd z (by decide)) (fun _ => ?_)
  refine lv_aload_n hx hb dJx4a65c_grow_92f84_10 rfl (lv_at hl1 1 rfl) ?_
  refine va_get (D := G.1) (cl := zcl) (tys := ztys G.2.1) (ci := 13) hx hb hts zAL hown hE.1 hΨ.1 q1 hw rfl 1 (by decide) (hts _ zj_l134) (fun _ z => z) rfl dJx4a65c_grow_92f84_11 ?_
  refine va_gets hx hb (hXL s hX).1 va_S.rf hown (hts _ zj_l132) (fun _ z => z) dJx4a65c_grow_92f84_14 ?_
  refine lv_acmp_eq hx hb (rx := some G.2.2.1) (ry := some G.2.2.1) (tgt := 45) dJx4a65c_grow_92f84_17 (by decide) (fun _ => ?_) (fun z => absurd rfl z)
  refine lv_aload_n hx hb dJx4a65c_grow_92f84_45 rfl (lv_at hl1 1 rfl) ?_
  refine lv_bipush (v := 10) hx hb dJx4a65c_grow_92f84_46 rfl ?_
  refine lv_iload_n hx hb dJx4a65c_grow_92f84_48 rfl (lv_at hl1 2 rfl) ?_
  refine va_mmax hx hb (hml.trans hl1.1.symm) hown (hts _ zj_l606) (hts _ zj_l564) (hts _ zj_l99) (hts _ zj_l565) (by omega) (by show 1 + 0 + 13 ≤ _; omega) (Nat.zero_le _) (Nat.zero_le _) dJx4a65c_grow_92f84_49 ?_
  rw [if_neg (by decide)]
  refine va_newq (D := G.1) (cl := zcl) (tys := ztys G.2.1) (N' := 10) hx hb hown (hts _ zj_l607) (hXL s hX).2.2.2.2.2.2.1 hE.1 hΨ.1 hΨ.2 va_S.rf hE.2.2.2.2 (by decide) (by decide) (by omega) (by omega) (by omega) dJx4a65c_grow_92f84_52 (fun q cA H1 hK1 hP1 hD1 hS1 => ?_)
  obtain rfl := zAC hE (t := 8) rfl hK1
  refine lv_dup_x1 hx hb dJx4a65c_grow_92f84_55 rfl rfl ?_
  refine va_put (D := G.1) (cl := zcl) (tys := ztys G.2.1) (ci := 13) (v := .ref q) hx hb hts zAL tyJx4a65c tyJx4a65c_ok nmJx4a65c hown hE.1 hP1 hD1 hS1 q1 (zget_app hw) rfl 1 (by decide) (hts _ zj_l134) (fun _ z => z) rfl (tyJx4a65c_ok 1 (by decide)) rfl rfl (Nat.le_of_ble_eq_true rfl) dJx4a65c_grow_92f84_56 (fun H2 locs2 hP2 hD2 hS2 => ?_)
  exact vx_ret (W.aret (v := .ref q) hx hb hret (Or.inr ⟨_, rfl⟩) (Or.inr ⟨_, rfl⟩) (fun t ht _ => ⟨_, rfl, ⟨q, rfl, by rw [ht]; exact ⟨hP2, hD2⟩⟩, hS2.F ht⟩) hS2.2.2 dJx4a65c_grow_92f84_59)
theorem zjb_g1F (hok : zXok G X) (hXL : ∀ s, X s → zXL G mi s) {ws : va_W} {q1 q2 a b n N ci : Nat} {c0 : Int32} {f : Nat → Option Nat} {C : String} {T : u_T} {NN : Nat} (hn : (n = 10 ∧ N = 15) ∨ (n = 15 ∧ N = 22) ∨ (n = 22 ∧ N = 33))
    (hw : ws[q1]? = some (a, .inr (13, [.int c0, .ref b, .int (nI n)]))) (hw2 : ws[q2]? = some (b, .inl (G.2.1 8, zAr n f))) (hci : zcl[ci]? = some (C, T, NN))
    (hel : ∀ j, j < n → ∀ y, f j = some y → ∃ (qk : Nat) (vs : List Value), ws[qk]? = some (y, .inr (ci, vs))) (hca : ∀ s, X s → va_Nw (.castable C "java/lang/Object") s) :
    zJb l G X yJx4a65c_grow_92f84 cJx4a65c_grow_92f84 4 (some (.array (.object "java/lang/Object"))) 3 80 1 N [.ref a, .int (nI (n + 1))] (zPD G ws) (fun v H => ∃ q, v = some (.ref q) ∧ zPD G ((ws ++ [((q, .inl (G.2.1 8, zAr N (va_cpy f (fun _ => none) 0 0 n))) : Nat × va_E)]).set q1 (a, .inr (13, [.int c0, .ref q, .int (nI n)]))) H) := by
  intro p e R s m below meth c ls hC hΨ hmc hms hls
  obtain ⟨hx, hb, hml, hown, hts, hret, hlk, hfr, hlo, hE, hX⟩ := id hC
  have hnl : nI n + (if nI (n + 1) - nI n < nI n >>> ((1 : Int32) &&& 31) then nI n >>> ((1 : Int32) &&& 31) else nI (n + 1) - nI n) = nI N := by
    rcases hn with ⟨rfl, rfl⟩ | ⟨rfl, rfl⟩ | ⟨rfl, rfl⟩ <;> decide
  have hN : n ≤ N ∧ N ≤ 100 ∧ 0 < n := by omega
  refine lv_aload_n hx hb dJx4a65c_grow_92f84_0 rfl (lv_at hls 0 rfl) ?_
  refine va_get (D := G.1) (cl := zcl) (tys := ztys G.2.1) (ci := 13) hx hb hts zAL hown hE.1 hΨ.1 q1 hw rfl 1 (by decide) (hts _ zj_l134) (fun _ z => z) rfl dJx4a65c_grow_92f84_1 ?_
  refine va_alen (D := G.1) (cl := zcl) (tys := ztys G.2.1) hx hb hE.1 hΨ.1 q2 8 hw2 rfl (v := nI n) rfl dJx4a65c_grow_92f84_4 ?_
  refine lv_istore_n hx hb dJx4a65c_grow_92f84_5 rfl hls (by decide) rfl (fun ls1 hl1 => ?_)
  refine lv_iload_n hx hb dJx4a65c_grow_92f84_6 rfl (lv_at hl1 0 rfl) ?_
  refine lv_if_gt hx hb (tgt := 20) dJx4a65c_grow_92f84_7 (by decide) (fun _ => ?_) (fun z => absurd (show nI 0 < nI n from nI_lt hN.2.2 (by omega)) z)
  refine lv_iload_n hx hb dJx4a65c_grow_92f84_20 rfl (lv_at hl1 0 rfl) ?_
  refine lv_iload_n hx hb dJx4a65c_grow_92f84_21 rfl (lv_at hl1 2 rfl) ?_
  refine lv_iload_n hx hb dJx4a65c_grow_92f84_22 rfl (lv_at hl1 0 rfl) ?_
  refine lv_isub hx hb dJx4a65c_grow_92f84_23 ?_
  refine lv_iload_n hx hb dJx4a65c_grow_92f84_24 rfl (lv_at hl1 0 rfl) ?_
  refine lv_iconst hx hb dJx4a65c_grow_92f84_25 rfl ?_
  refine lv_ishr hx hb dJx4a65c_grow_92f84_26 ?_
  refine zJS (as := [.int (nI n), .int (nI (n + 1) - nI n), .int (nI n >>> ((1 : Int32) &&& 31))]) (rest := []) hC hok zJy_nl (zjb_nl (Ψ := zPD G ws) hnl (by rcases hn with ⟨rfl, rfl⟩ | ⟨rfl, rfl⟩ | ⟨rfl, rfl⟩ <;> decide) (by rcases hn with ⟨rfl, rfl⟩ | ⟨rfl, rfl⟩ | ⟨rfl, rfl⟩ <;> decide)) (Nat.le_of_ble_eq_true rfl) zj_l560 zj_l561 (by decide) (by decide) va_S.rf hΨ hl1.1 (by decide) dJx4a65c_grow_92f84_27 (by omega) (by omega) (fun v H1 locs1 hv hS1 => ?_)
  obtain ⟨rfl, hP1⟩ := hv
  refine lv_istore_n hx hb dJx4a65c_grow_92f84_30 rfl hl1 (by decide) rfl (fun ls2 hl2 => ?_)
  refine lv_aload_n hx hb dJx4a65c_grow_92f84_31 rfl (lv_at hl2 2 rfl) ?_
  refine lv_aload_n hx hb dJx4a65c_grow_92f84_32 rfl (lv_at hl2 2 rfl) ?_
  refine va_get (D := G.1) (cl := zcl) (tys := ztys G.2.1) (ci := 13) hx hb hts zAL hown hE.1 hP1.1 q1 hw rfl 1 (by decide) (hts _ zj_l134) (fun _ z => z) rfl dJx4a65c_grow_92f84_33 ?_
  refine lv_iload_n hx hb dJx4a65c_grow_92f84_36 rfl (lv_at hl2 0 rfl) ?_
  refine zJS (as := [.ref b, .int (nI N)]) (rest := [.ref a]) hC hok zJy_cp2 (zjb_cp2 hok hXL hw2 hN.1 hN.2.1 hci hel hca) (Nat.le_of_ble_eq_true rfl) zj_l570 zj_l571 (by decide) (by decide) hS1 hP1 hl2.1 (by show 1 + 0 ≤ 8; omega) dJx4a65c_grow_92f84_37 (by omega) (by omega) (fun v H2 locs2 hv hS2 => ?_)
  obtain ⟨q, rfl, hP2, hD2⟩ := hv
  refine lv_dup_x1 hx hb dJx4a65c_grow_92f84_40 rfl rfl ?_
  refine va_put (D := G.1) (cl := zcl) (tys := ztys G.2.1) (ci := 13) (v := .ref q) hx hb hts zAL tyJx4a65c tyJx4a65c_ok nmJx4a65c hown hE.1 hP2 hD2 hS2 q1 (zget_app hw) rfl 1 (by decide) (hts _ zj_l134) (fun _ z => z) rfl (tyJx4a65c_ok 1 (by decide)) rfl rfl (Nat.le_of_ble_eq_true rfl) dJx4a65c_grow_92f84_41 (fun H3 locs3 hP3 hD3 hS3 => ?_)
  rw [show 0 + 0 + N = N by omega]
  exact vx_ret (W.aret (v := .ref q) hx hb hret (Or.inr ⟨_, rfl⟩) (Or.inr ⟨_, rfl⟩) (fun t ht _ => ⟨_, rfl, ⟨q, rfl, by rw [ht]; exact ⟨hP3, hD3⟩⟩, hS3.F ht⟩) hS3.2.2 dJx4a65c_grow_92f84_44)
theorem zjb_g0 (hok : zXok G X) {ws : va_W} {q1 a mc ms : Nat} {c0 sz : Int32} {el : Value} {Φ : Option Value → Heap → Prop} (hw : ws[q1]? = some (a, .inr (13, [.int c0, el, .int sz])))
    (hj : zJb l G X yJx4a65c_grow_92f84 cJx4a65c_grow_92f84 4 (some (.array (.object "java/lang/Object"))) 3 80 mc ms [.ref a, .int (sz + 1)] (zPD G ws) Φ) (hΦ : ∀ v H, Φ v H → ∃ q, v = some (.ref q)) :
    zJb l G X yJx4a65c_grow_d5877 cJx4a65c_grow_d5877 1 (some (.array (.object "java/lang/Object"))) 4 105 mc ms [.ref a] (zPD G ws) Φ := by
  intro p e R s m below meth c ls hC hΨ hmc hms hls
  obtain ⟨hx, hb, hml, hown, hts, hret, hlk, hfr, hlo, hE, hX⟩ := id hC
  refine lv_aload_n hx hb dJx4a65c_grow_d5877_0 rfl (lv_at hls 0 rfl) ?_
  refine lv_aload_n hx hb dJx4a65c_grow_d5877_1 rfl (lv_at hls 0 rfl) ?_
  refine va_get (D := G.1) (cl := zcl) (tys := ztys G.2.1) (ci := 13) hx hb hts zAL hown hE.1 hΨ.1 q1 hw rfl 2 (by decide) (hts _ zj_l135) (fun _ z => z) rfl dJx4a65c_grow_d5877_2 ?_
  refine lv_iconst hx hb dJx4a65c_grow_d5877_5 rfl ?_
  refine lv_iadd hx hb dJx4a65c_grow_d5877_6 ?_
  refine zJV (as := [.int (sz + 1)]) (rest := []) hC hok zJy_g1 hj (Nat.le_of_ble_eq_true rfl) zj_l556 zj_l558 zj_s3 (va_recv hE.1 hΨ.1 (q := (RJx4a65c, TJx4a65c, 3)) rfl hw) (by decide) (by decide) va_S.rf hΨ hls.1 (by decide) dJx4a65c_grow_d5877_7 (by omega) (by omega) (fun v H1 locs1 hv hS1 => ?_)
  obtain ⟨q, rfl⟩ := hΦ _ _ hv
  rw [Nat.zero_add mc, Nat.zero_add ms]
  exact vx_ret (W.aret (v := .ref q) hx hb hret (Or.inr ⟨_, rfl⟩) (Or.inr ⟨_, rfl⟩) (fun t ht _ => ⟨_, rfl, by rw [ht]; exact hv, hS1.F ht⟩) hS1.2.2 dJx4a65c_grow_d5877_10)
end ZJM
