/-! The lists' methods. -/
def zPD (G : zG) (ws : va_W) (H : Heap) : Prop := va_P G.1 zcl ws H ∧ va_D G.2.2.2.1 ws
abbrev zAr (n : Nat) (f : Nat → Option Nat) : vp_A := (n, .inr (.inr (.inr (.inr f))))
section ZJL
variable {l : Launch} {G : zG} {X : State → Prop} {mi : Nat}
theorem zjb_ac {Ψ : Heap → Prop} {a : Nat} : zJb l G X yJxa1e45_init_da8c8 cJxa1e45_init_da8c8 1 none 1 20 0 0 [.ref a] Ψ (fun v H => v = none ∧ Ψ H) := by
  intro p e R s m below meth c ls hC hΨ hmc hms hls
  obtain ⟨hx, hb, hml, hown, hts, hret, hlk, hfr, hlo, hE, hX⟩ := hC
  refine lv_aload_n hx hb dJxa1e45_init_da8c8_0 rfl (lv_at hls 0 rfl) ?_
  refine W.objInit hx hb hown (idx := 1) (hts _ zj_l131) (hts _ zj_l118) (hts _ zj_l119) rfl (by show ls.size = _; rw [hls.1, hml]) rfl dJxa1e45_init_da8c8_1 (by omega) (by show 2 * 0 + 0 + 12 ≤ _; omega) ?_
  exact vx_ret (W.vret hx hb hret (fun t ht _ => ⟨none, rfl, ⟨rfl, by rw [ht]; exact hΨ⟩, va_S.rf.F ht⟩) (fun _ h => absurd h List.not_mem_nil) dJxa1e45_init_da8c8_4)
theorem zjb_al (hok : zXok G X) {ws : va_W} {q1 a : Nat} {c0 sz : Int32} {el : Value} (hw : ws[q1]? = some (a, .inr (13, [.int c0, el, .int sz]))) :
    zJb l G X yJxc12de_init_da8c8 cJxc12de_init_da8c8 1 none 2 40 0 0 [.ref a] (zPD G ws) (fun v H => v = none ∧ zPD G (ws.set q1 (a, .inr (13, [.int 0, el, .int sz]))) H) := by
  intro p e R s m below meth c ls hC hΨ hmc hms hls
  obtain ⟨hx, hb, hml, hown, hts, hret, hlk, hfr, hlo, hE, hX⟩ := id hC
  refine lv_aload_n hx hb dJxc12de_init_da8c8_0 rfl (lv_at hls 0 rfl) ?_
  refine zJI (as := []) (rest := []) hC hok zJy_ac (zjb_ac (Ψ := zPD G ws)) (Nat.le_of_ble_eq_true rfl) zj_l128 zj_l129 rfl (by decide) (by decide) va_S.rf hΨ hls.1 (by decide) dJxc12de_init_da8c8_1 (by omega) (by omega) (fun v H1 locs1 hv hS1 => ?_)
  obtain ⟨rfl, hP1, hD1⟩ := hv
  refine lv_aload_n hx hb dJxc12de_init_da8c8_4 rfl (lv_at hls 0 rfl) ?_
  refine lv_iconst hx hb dJxc12de_init_da8c8_5 rfl ?_
  refine va_put (D := G.1) (cl := zcl) (tys := ztys G.2.1) (ci := 13) (v := .int 0) hx hb hts zAL tyJx4a65c tyJx4a65c_ok nmJx4a65c hown hE.1 hP1 hD1 hS1 q1 hw rfl 0 (by decide) (hts _ zj_l136) (fun _ z => z) rfl (tyJx4a65c_ok 0 (by decide)) rfl rfl (Nat.le_of_ble_eq_true rfl) dJxc12de_init_da8c8_6 (fun H2 locs2 hP2 hD2 hS2 => ?_)
  exact vx_ret (W.vret hx hb hret (fun t ht _ => ⟨none, rfl, ⟨rfl, by rw [ht]; exact ⟨hP2, hD2⟩⟩, hS2.F ht⟩) hS2.2.2 dJxc12de_init_da8c8_9)
theorem zjb_init (hok : zXok G X) (hXL : ∀ s, X s → zXL G mi s) {ws : va_W} {q1 a : Nat} {c0 sz : Int32} {el : Value} (hw : ws[q1]? = some (a, .inr (13, [.int c0, el, .int sz]))) :
    zJb l G X yJx4a65c_init_da8c8 cJx4a65c_init_da8c8 1 none 3 60 0 0 [.ref a] (zPD G ws) (fun v H => v = none ∧ zPD G (ws.set q1 (a, .inr (13, [.int 0, .ref G.2.2.1, .int sz]))) H) := by
  intro p e R s m below meth c ls hC hΨ hmc hms hls
  obtain ⟨hx, hb, hml, hown, hts, hret, hlk, hfr, hlo, hE, hX⟩ := id hC
  have hl := (List.getElem?_eq_some_iff.mp hw).1
  refine lv_aload_n hx hb dJx4a65c_init_da8c8_0 rfl (lv_at hls 0 rfl) ?_
  refine zJI (as := []) (rest := []) hC hok zJy_al (zjb_al hok hw) (Nat.le_of_ble_eq_true rfl) zj_l125 zj_l126 rfl (by decide) (by decide) va_S.rf hΨ hls.1 (by decide) dJx4a65c_init_da8c8_1 (by omega) (by omega) (fun v H1 locs1 hv hS1 => ?_)
  obtain ⟨rfl, hP1, hD1⟩ := hv
  refine lv_aload_n hx hb dJx4a65c_init_da8c8_4 rfl (lv_at hls 0 rfl) ?_
  refine va_gets hx hb (hXL s hX).1 hS1 hown (hts _ zj_l132) (fun _ z => z) dJx4a65c_init_da8c8_5 ?_
  refine va_put (D := G.1) (cl := zcl) (tys := ztys G.2.1) (ci := 13) (v := .ref G.2.2.1) hx hb hts zAL tyJx4a65c tyJx4a65c_ok nmJx4a65c hown hE.1 hP1 hD1 hS1 q1 (List.getElem?_set_self hl) rfl 1 (by decide) (hts _ zj_l134) (fun _ z => z) rfl (tyJx4a65c_ok 1 (by decide)) rfl rfl (Nat.le_of_ble_eq_true rfl) dJx4a65c_init_da8c8_8 (fun H2 locs2 hP2 hD2 hS2 => ?_)
  rw [List.set_set] at hP2 hD2
  exact vx_ret (W.vret hx hb hret (fun t ht _ => ⟨none, rfl, ⟨rfl, by rw [ht]; exact ⟨hP2, hD2⟩⟩, hS2.F ht⟩) hS2.2.2 dJx4a65c_init_da8c8_11)
theorem zjb_size {ws : va_W} {q1 a : Nat} {c0 sz : Int32} {el : Value} (hw : ws[q1]? = some (a, .inr (13, [.int c0, el, .int sz]))) :
    zJb l G X yJx4a65c_size_8abf5 cJx4a65c_size_8abf5 1 (some .int) 0 0 0 0 [.ref a] (zPD G ws) (fun v H => v = some (.int sz) ∧ zPD G ws H) := by
  intro p e R s m below meth c ls hC hΨ hmc hms hls
  obtain ⟨hx, hb, hml, hown, hts, hret, hlk, hfr, hlo, hE, hX⟩ := id hC
  refine lv_aload_n hx hb dJx4a65c_size_8abf5_0 rfl (lv_at hls 0 rfl) ?_
  refine va_get (D := G.1) (cl := zcl) (tys := ztys G.2.1) (ci := 13) hx hb hts zAL hown hE.1 hΨ.1 q1 hw rfl 2 (by decide) (hts _ zj_l135) (fun _ z => z) rfl dJx4a65c_size_8abf5_1 ?_
  exact vx_ret (W.iret hx hb hret (fun t ht _ => ⟨_, rfl, ⟨rfl, by rw [ht]; exact hΨ⟩, va_S.rf.F ht⟩) (fun _ h => absurd h List.not_mem_nil) dJx4a65c_size_8abf5_4)
theorem zjb_pci {Ψ : Heap → Prop} {i n : Int32} (h0 : ¬ i < 0) (h1 : i < n) :
    zJb l G X yJ3_checkIndex_8e157 cJ3_checkIndex_8e157 3 (some .int) 0 0 0 0 [.int i, .int n, .null] Ψ (fun v H => v = some (.int i) ∧ Ψ H) := by
  intro p e R s m below meth c ls hC hΨ hmc hms hls
  obtain ⟨hx, hb, hml, hown, hts, hret, hlk, hfr, hlo, hE, hX⟩ := id hC
  refine lv_iload_n hx hb dJ3_checkIndex_8e157_0 rfl (lv_at hls 0 rfl) ?_
  refine lv_if_lt hx hb (tgt := 9) dJ3_checkIndex_8e157_1 (by decide) (fun z => absurd z h0) (fun _ => ?_)
  refine lv_iload_n hx hb dJ3_checkIndex_8e157_4 rfl (lv_at hls 0 rfl) ?_
  refine lv_iload_n hx hb dJ3_checkIndex_8e157_5 rfl (lv_at hls 1 rfl) ?_
  refine lv_icmp_lt hx hb (tgt := 16) dJ3_checkIndex_8e157_6 (by decide) (fun _ => ?_) (fun z => absurd h1 z)
  refine lv_iload_n hx hb dJ3_checkIndex_8e157_16 rfl (lv_at hls 0 rfl) ?_
  exact vx_ret (W.iret hx hb hret (fun t ht _ => ⟨_, rfl, ⟨rfl, by rw [ht]; exact hΨ⟩, va_S.rf.F ht⟩) (fun _ h => absurd h List.not_mem_nil) dJ3_checkIndex_8e157_17)
theorem zjb_oci (hok : zXok G X) {Ψ : Heap → Prop} {i n : Int32} (h0 : ¬ i < 0) (h1 : i < n) :
    zJb l G X yJ15_checkIndex_7cf53 cJ15_checkIndex_7cf53 2 (some .int) 1 22 0 0 [.int i, .int n] Ψ (fun v H => v = some (.int i) ∧ Ψ H) := by
  intro p e R s m below meth c ls hC hΨ hmc hms hls
  obtain ⟨hx, hb, hml, hown, hts, hret, hlk, hfr, hlo, hE, hX⟩ := id hC
  refine lv_iload_n hx hb dJ15_checkIndex_7cf53_0 rfl (lv_at hls 0 rfl) ?_
  refine lv_iload_n hx hb dJ15_checkIndex_7cf53_1 rfl (lv_at hls 1 rfl) ?_
  refine lv_null hx hb dJ15_checkIndex_7cf53_2 ?_
  refine zJS (as := [.int i, .int n, .null]) (rest := []) hC hok zJy_pci (zjb_pci (Ψ := Ψ) h0 h1) (Nat.le_of_ble_eq_true rfl) zj_l354 zj_l355 (by decide) (by decide) va_S.rf hΨ hls.1 (by decide) dJ15_checkIndex_7cf53_3 (by omega) (by omega) (fun v H1 locs1 hv hS1 => ?_)
  obtain ⟨rfl, hP1⟩ := hv
  exact vx_ret (W.iret hx hb hret (fun t ht _ => ⟨_, rfl, ⟨rfl, by rw [ht]; exact hP1⟩, hS1.F ht⟩) hS1.2.2 dJ15_checkIndex_7cf53_6)
theorem zjb_ed {ws : va_W} {q1 q2 a b n : Nat} {c0 sz i : Int32} {f : Nat → Option Nat} (hw : ws[q1]? = some (a, .inr (13, [.int c0, .ref b, .int sz]))) (hw2 : ws[q2]? = some (b, .inl (G.2.1 8, zAr n f))) (hi : vp_in i n) :
    zJb l G X yJx4a65c_elementData_915e3 cJx4a65c_elementData_915e3 2 (some (.object "java/lang/Object")) 0 0 0 0 [.ref a, .int i] (zPD G ws) (fun v H => v = some (va_rf (f i.toNatClampNeg)) ∧ zPD G ws H) := by
  intro p e R s m below meth c ls hC hΨ hmc hms hls
  obtain ⟨hx, hb, hml, hown, hts, hret, hlk, hfr, hlo, hE, hX⟩ := id hC
  refine lv_aload_n hx hb dJx4a65c_elementData_915e3_0 rfl (lv_at hls 0 rfl) ?_
  refine va_get (D := G.1) (cl := zcl) (tys := ztys G.2.1) (ci := 13) hx hb hts zAL hown hE.1 hΨ.1 q1 hw rfl 1 (by decide) (hts _ zj_l134) (fun _ z => z) rfl dJx4a65c_elementData_915e3_1 ?_
  refine lv_iload_n hx hb dJx4a65c_elementData_915e3_4 rfl (lv_at hls 1 rfl) ?_
  refine va_aldq (D := G.1) (cl := zcl) (tys := ztys G.2.1) hx hb hE.1 hΨ.1 q2 8 hw2 rfl hi dJx4a65c_elementData_915e3_5 ?_
  cases hv : f i.toNatClampNeg with
  | none => exact vx_ret (W.aret (v := .null) hx hb hret (Or.inl ⟨_, rfl⟩) (Or.inl rfl) (fun t ht _ => ⟨_, rfl, ⟨rfl, by rw [ht]; exact hΨ⟩, va_S.rf.F ht⟩) (fun _ h => absurd h List.not_mem_nil) dJx4a65c_elementData_915e3_6)
  | some y => exact vx_ret (W.aret (v := .ref y) hx hb hret (Or.inl ⟨_, rfl⟩) (Or.inr ⟨_, rfl⟩) (fun t ht _ => ⟨_, rfl, ⟨rfl, by rw [ht]; exact hΨ⟩, va_S.rf.F ht⟩) (fun _ h => absurd h List.not_mem_nil) dJx4a65c_elementData_915e3_6)
theorem zjb_get (hok : zXok G X) {ws : va_W} {q1 q2 a b n : Nat} {c0 sz i : Int32} {f : Nat → Option Nat} (hw : ws[q1]? = some (a, .inr (13, [.int c0, .ref b, .int sz]))) (hw2 : ws[q2]? = some (b, .inl (G.2.1 8, zAr n f))) (h0 : ¬ i < 0) (h1 : i < sz) (hi : vp_in i n) :
    zJb l G X yJx4a65c_get_915e3 cJx4a65c_get_915e3 2 (some (.object "java/lang/Object")) 2 43 0 0 [.ref a, .int i] (zPD G ws) (fun v H => v = some (va_rf (f i.toNatClampNeg)) ∧ zPD G ws H) := by
  intro p e R s m below meth c ls hC hΨ hmc hms hls
  obtain ⟨hx, hb, hml, hown, hts, hret, hlk, hfr, hlo, hE, hX⟩ := id hC
  refine lv_iload_n hx hb dJx4a65c_get_915e3_0 rfl (lv_at hls 1 rfl) ?_
  refine lv_aload_n hx hb dJx4a65c_get_915e3_1 rfl (lv_at hls 0 rfl) ?_
  refine va_get (D := G.1) (cl := zcl) (tys := ztys G.2.1) (ci := 13) hx hb hts zAL hown hE.1 hΨ.1 q1 hw rfl 2 (by decide) (hts _ zj_l135) (fun _ z => z) rfl dJx4a65c_get_915e3_2 ?_
  refine zJS (as := [.int i, .int sz]) (rest := []) hC hok zJy_oci (zjb_oci hok (Ψ := zPD G ws) h0 h1) (Nat.le_of_ble_eq_true rfl) zj_l351 zj_l352 (by decide) (by decide) va_S.rf hΨ hls.1 (by decide) dJx4a65c_get_915e3_5 (by omega) (by omega) (fun v H1 locs1 hv hS1 => ?_)
  obtain ⟨rfl, hP1⟩ := hv
  refine lv_pop hx hb dJx4a65c_get_915e3_8 rfl ?_
  refine lv_aload_n hx hb dJx4a65c_get_915e3_9 rfl (lv_at hls 0 rfl) ?_
  refine lv_iload_n hx hb dJx4a65c_get_915e3_10 rfl (lv_at hls 1 rfl) ?_
  refine zJV (as := [.int i]) (rest := []) hC hok zJy_ed (zjb_ed hw hw2 hi) (Nat.le_of_ble_eq_true rfl) zj_l357 zj_l358 zj_l359 (va_recv hE.1 hP1.1 (q := (RJx4a65c, TJx4a65c, 3)) rfl hw) (by decide) (by decide) hS1 hP1 hls.1 (by decide) dJx4a65c_get_915e3_11 (by omega) (by omega) (fun v H2 locs2 hv hS2 => ?_)
  obtain ⟨rfl, hP2⟩ := hv
  cases hv : f i.toNatClampNeg with
  | none => exact vx_ret (W.aret (v := .null) hx hb hret (Or.inl ⟨_, rfl⟩) (Or.inl rfl) (fun t ht _ => ⟨_, rfl, ⟨rfl, by rw [ht]; exact hP2⟩, hS2.F ht⟩) hS2.2.2 dJx4a65c_get_915e3_14)
  | some y => exact vx_ret (W.aret (v := .ref y) hx hb hret (Or.inl ⟨_, rfl⟩) (Or.inr ⟨_, rfl⟩) (fun t ht _ => ⟨_, rfl, ⟨rfl, by rw [ht]; exact hP2⟩, hS2.F ht⟩) hS2.2.2 dJx4a65c_get_915e3_14)
end ZJL
