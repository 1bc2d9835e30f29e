set_option maxRecDepth 16384
/-! capital, verdict, verdictByAll: both sides. -/
theorem zE_1200 : (1200 : Int32) = zE 1200 := (Int32.ofInt_eq_ofNat (n := 1200)).symm
theorem zsk_1 {k : Int} : zsk (2 * k + 1) = 7 := if_pos (by omega)
theorem zsk_0 {k : Int} : zsk (2 * k) = 8 := if_neg (by omega)
theorem zdv_1 {k : Int} : (2 * k + 1) / 2 = k := by omega
theorem zdv_0 {k : Int} : (2 * k) / 2 = k := by omega
def zmq (s s' : zS) : Prop := s' 47 = s 47 ∧ s' 48 = s 48 ∧ s' 49 = s 49
theorem zmq_0 {s : zS} {v : Int} : zmq s (zup s 0 0 v) := ⟨funext fun _ => rfl, funext fun _ => rfl, funext fun _ => rfl⟩
theorem zcpN_q {s s' : zS} (e : zmq s s') (k : Int) : ∀ n, zcpN s' k n = zcpN s k n
  | 0 => rfl
  | n + 1 => by
    show zcst _ _ _ = zcst _ _ _
    rw [zcpN_q e k n, e.2.1]
theorem zprs_q {s s' : zS} (e : zmq s s') (k : Int) : zprs s' k = zprs s k := by
  unfold zprs
  rw [e.1]
theorem zslN_q {s s' : zS} (e : zmq s s') (w : Int) : ∀ n, zslN s' w n = zslN s w n
  | 0 => rfl
  | n + 1 => by
    have hc : ∀ b, zcu s' w b = zcu s w b := fun b => by
      unfold zcu
      rw [e.1, e.2.2]
    show (if 9 * s' 47 w ≤ 10 * zcu s' w (17 - n) then 16 - (n : Int) else zslN s' w n) = (if 9 * s 47 w ≤ 10 * zcu s w (17 - n) then 16 - (n : Int) else zslN s w n)
    rw [zslN_q e w n, e.1, hc]
/-- the verdict -/
def zvdP (s : zS) (k : Int) : Prop := zbig (zcpN s k (zprs s k).toNat) ∨ (10 ≤ zprs s k ∧ zsl' s (2 * k) + 1 < zsl' s (2 * k + 1))
noncomputable def zvd (s : zS) (k : Int) : Int := @ite _ (zvdP s k) (Classical.propDecidable _) 2 (if 20 ≤ zprs s k then 1 else 0)
theorem zvd_q {s s' : zS} (e : zmq s s') (k : Int) : zvd s' k = zvd s k := by
  have h : zvdP s' k = zvdP s k := by
    unfold zvdP zsl'
    rw [zcpN_q e, zprs_q e, zslN_q e, zslN_q e]
  unfold zvd
  rw [h, zprs_q e]
theorem zvd_r (s : zS) (k : Int) : 0 ≤ zvd s k ∧ zvd s k ≤ 2 := by
  unfold zvd
  split
  · omega
  · split <;> omega
theorem zprs_r {s : zS} (hM : zWm s) {k : Int} (k0 : 0 ≤ k) (k1 : k < 12) : 0 ≤ zprs s k ∧ zprs s k ≤ 600 ∧ zprs s k ≤ s 47 (2 * k) ∧ zprs s k ≤ s 47 (2 * k + 1) := by
  have h1 := (hM.2 (2 * k) (by omega) (by omega)).1
  have h2 := (hM.2 (2 * k + 1) (by omega) (by omega)).1
  have h3 := hM.1
  unfold zprs
  split <;> omega
theorem zct_7 {h : zH} {s : zS} (hC : zCM h s) {k : Int} (k0 : 0 ≤ k) (k1 : k < 12) : zi h 7 k.toNat 1 = zE (s 47 (2 * k + 1)) := by
  obtain ⟨c, -, -, -, -, k5, -⟩ := zsmp hC (w := 2 * k + 1) (by omega) (by omega)
  rwa [zsk_1, zdv_1] at k5
theorem zct_8 {h : zH} {s : zS} (hC : zCM h s) {k : Int} (k0 : 0 ≤ k) (k1 : k < 12) : zi h 8 k.toNat 1 = zE (s 47 (2 * k)) := by
  obtain ⟨c, -, -, -, -, k5, -⟩ := zsmp hC (w := 2 * k) (by omega) (by omega)
  rwa [zsk_0, zdv_0] at k5
theorem zc37 {h : zH} {s : zS} (hK : zCK h s) (hC : zCM h s) (hM : zWm s) {k : Int} (k0 : 0 ≤ k) (k1 : k < 12) : zm37 (some (10, k.toNat)) h = some (.inl (zE (zprs s k)), h) := by
  have h1 := (hM.2 (2 * k) (by omega) (by omega)).1
  have h2 := (hM.2 (2 * k + 1) (by omega) (by omega)).1
  have h3 := hM.1
  unfold zprs
  by_cases e : s 47 (2 * k) < s 47 (2 * k + 1)
  · rw [if_pos e]
    simp (discharger := omega) only [zm37, ↓zo_10, zCk5 hK, zCk6 hK, ↓zo_7, ↓zo_8, zct_7 hC, zct_8 hC, zE_lt, e, if_true]
  · rw [if_neg e]
    simp (discharger := omega) only [zm37, ↓zo_10, zCk5 hK, zCk6 hK, ↓zo_7, ↓zo_8, zct_7 hC, zct_8 hC, zE_lt, e, if_false]
theorem zc20 {h : zH} {s : zS} (hC : zCM h s) (hM : zWm s) {w i : Int} (w0 : 0 ≤ w) (w1 : w < 24) (i0 : 0 ≤ i) (i1 : i < s 47 w) : zm20 (some (zsk w, (w / 2).toNat)) (zE i) h = some (.inl (zE (s 48 (600 * w + i))), h) := by
  obtain ⟨c, k1, k2, k3, k4, k5, k6, k7, k8, k9⟩ := zsmp hC w0 w1
  have hm := hM.1
  obtain ⟨h2, h3⟩ := hM.2 w w0 w1
  obtain ⟨g1, g2⟩ := h3 i i0 i1
  have hb := zbk_16 g2.2
  obtain ⟨d1, d2⟩ := zcod_s hb.1 hb.2 g1.1 g1.2
  have hk : (ztg c.1 == 1 || ztg c.1 == 10) = true := by rcases k1 with z | z <;> rw [z] <;> rfl
  have e1 : ∀ f : Int32 → zRs Int32, zri (zr h (zsk w) (w / 2).toNat 0) (zE i) h f = f (zE (2 * zbk (s 49 (600 * w + i)) + s 48 (600 * w + i))) := fun f => zri_s (k := c.1) (i := c.2) k2 hk rfl i0 (by omega) (by omega) (k4 i i0 i1)
  have e0 : ¬ i < 0 := by omega
  have e2 : ¬ s 47 w ≤ i := by omega
  have z1 : ¬ zE 0 = zE 1 := by decide
  rcases (show s 48 (600 * w + i) = 0 ∨ s 48 (600 * w + i) = 1 by omega) with q | q
  · rw [q] at d2 e1 ⊢
    simp (discharger := omega) only [zm20, zE_0, zE_1, zE_2, zE_3, zE_4, zE_5, zE_6, zE_7, zE_8, zE_9, zE_10, zE_11, zE_12, zE_13, zE_14, zE_neg, zE_lt, e0, if_false, ↓zo_7g, k5, zE_le, e2, ↓e1, d2, z1]
  · rw [q] at d2 e1 ⊢
    simp (discharger := omega) only [zm20, zE_0, zE_1, zE_2, zE_3, zE_4, zE_5, zE_6, zE_7, zE_8, zE_9, zE_10, zE_11, zE_12, zE_13, zE_14, zE_neg, zE_lt, e0, if_false, ↓zo_7g, k5, zE_le, e2, ↓e1, d2, if_true]
theorem zc33 {h : zH} {s : zS} (hK : zCK h s) (hC : zCM h s) (hM : zWm s) {k i : Int} {c : UInt64} (k0 : 0 ≤ k) (k1 : k < 12) (i0 : 0 ≤ i) (i1 : i < s 47 (2 * k)) (i2 : i < s 47 (2 * k + 1)) (hc : FP.Core.val64 c ≠ .nan) : zm33 (some (10, k.toNat)) c (zE i) h = some (.inl (zcst c (s 48 (600 * (2 * k + 1) + i)) (s 48 (600 * (2 * k) + i))), h) := by
  have a1 := zc20 hC hM (w := 2 * k + 1) (by omega) (by omega) i0 i2
  have a2 := zc20 hC hM (w := 2 * k) (by omega) (by omega) i0 i1
  rw [zsk_1, zdv_1] at a1
  rw [zsk_0, zdv_0] at a2
  obtain ⟨g1, -⟩ := (hM.2 (2 * k + 1) (by omega) (by omega)).2 i i0 i2
  obtain ⟨g2, -⟩ := (hM.2 (2 * k) (by omega) (by omega)).2 i i0 i1
  unfold zcst
  by_cases e : zbig c
  · have eb : ∀ f g : zRs UInt64, (if 0 ≤ (Op.cmpValue (FP.dcmp c 4626322717216342016) .l) then f else g) = f := fun f g => if_pos e
    rw [if_pos (show 0 ≤ (Op.cmpValue (FP.dcmp c 4626322717216342016) .l) from e)]
    simp (discharger := omega) only [zm33, zm33_15, ↓zo_10, zCk5 hK, ↓zo_7, a1, ↓zb_s, ↓eb]
  · have eb : ∀ f g : zRs UInt64, (if 0 ≤ (Op.cmpValue (FP.dcmp c 4626322717216342016) .l) then f else g) = g := fun f g => if_neg e
    rw [if_neg (show ¬ 0 ≤ (Op.cmpValue (FP.dcmp c 4626322717216342016) .l) from e)]
    have hn : ∀ c : UInt64, FP.Core.val64 c ≠ .nan → ∀ f : zRs UInt64, zif (c &&& 0x7fffffffffffffff ≤ 0x7ff0000000000000) f = f := fun c hc f => zif_s (zF_nan.mpr hc)
    by_cases c1 : s 48 (600 * (2 * k + 1) + i) = s 48 (600 * (2 * k) + i)
    · rw [if_pos c1]
      simp (discharger := omega) only [zm33, zm33_15, ↓zo_10, zCk5 hK, zCk6 hK, ↓zo_7, ↓zo_8, a1, a2, ↓zb_s, ↓eb, c1, if_true]
    · rw [if_neg c1]
      by_cases c2 : s 48 (600 * (2 * k + 1) + i) = 0
      · rw [if_pos c2]
        rw [c2] at c1 a1
        simp (discharger := omega) only [zm33, zm33_15, ↓zo_10, zCk5 hK, zCk6 hK, ↓zo_7, ↓zo_8, a1, a2, ↓zb_s, ↓eb, zE_inj, c1, if_false, zE_0, zE_1, zE_2, zE_3, zE_4, zE_5, zE_6, zE_7, zE_8, zE_9, zE_10, zE_11, zE_12, zE_13, zE_14, zE_neg, if_true, hn _ (zF_mul hc zF_c5 (by decide))]
      · rw [if_neg c2]
        simp (discharger := omega) only [zm33, zm33_15, ↓zo_10, zCk5 hK, zCk6 hK, ↓zo_7, ↓zo_8, a1, a2, ↓zb_s, ↓eb, zE_inj, c1, c2, if_false, zE_0, zE_1, zE_2, zE_3, zE_4, zE_5, zE_6, zE_7, zE_8, zE_9, zE_10, zE_11, zE_12, zE_13, zE_14, zE_neg, hn _ (zF_mul hc zF_c15 (by decide))]
theorem zvd_e {s : zS} {k v : Int} (h : (zvdP s k ∧ v = 2) ∨ (¬ zvdP s k ∧ v = (if 20 ≤ zprs s k then 1 else 0))) : v = zvd s k := by
  unfold zvd
  rcases h with ⟨h1, rfl⟩ | ⟨h1, rfl⟩
  · exact (if_pos h1).symm
  · exact (if_neg h1).symm
theorem zc36 {h : zH} {s : zS} (hK : zCK h s) (hC : zCM h s) (hM : zWm s) {k : Int} (k0 : 0 ≤ k) (k1 : k < 12) : zm36 (some (10, k.toNat)) (zcpN s k (zprs s k).toNat) (zE (zsl' s (2 * k + 1))) (zE (zsl' s (2 * k))) h = some (.inl (zE (zvd s k)), h) := by
  have hp := zprs_r hM k0 k1
  have r1 := zslN_r (s := s) (w := 2 * k + 1) 17 (Nat.le_refl _)
  have r2 := zslN_r (s := s) (w := 2 * k) 17 (Nat.le_refl _)
  have r1 : 0 ≤ zsl' s (2 * k + 1) ∧ zsl' s (2 * k + 1) ≤ 16 := r1
  have r2 : 0 ≤ zsl' s (2 * k) ∧ zsl' s (2 * k) ≤ 16 := r2
  have z1 : ¬ zE 1 = zE 0 := by decide
  have fin : ∀ b : Int, zbo b (10 ≤ zprs s k ∧ zsl' s (2 * k) + 1 < zsl' s (2 * k + 1)) → zm36_12 (some (10, k.toNat)) (zcpN s k (zprs s k).toNat) (zE b) h = some (.inl (zE (zvd s k)), h) := fun b hb => by
    by_cases e : zbig (zcpN s k (zprs s k).toNat)
    · have eb : ∀ f g : zRs Int32, (if 0 ≤ (Op.cmpValue (FP.dcmp (zcpN s k (zprs s k).toNat) 4626322717216342016) .l) then f else g) = f := fun f g => if_pos e
      rw [← zvd_e (s := s) (k := k) (v := 2) (Or.inl ⟨Or.inl e, rfl⟩)]
      simp (discharger := omega) only [zm36_12, ↓eb, zE_2]
    · have eb : ∀ f g : zRs Int32, (if 0 ≤ (Op.cmpValue (FP.dcmp (zcpN s k (zprs s k).toNat) 4626322717216342016) .l) then f else g) = g := fun f g => if_neg e
      rcases hb with ⟨rfl, hb⟩ | ⟨rfl, hb⟩
      · rw [← zvd_e (s := s) (k := k) (v := 2) (Or.inl ⟨Or.inr hb, rfl⟩)]
        simp (discharger := omega) only [zm36_12, ↓eb, zE_0, zE_1, zE_2, zE_3, zE_4, zE_5, zE_6, zE_7, zE_8, zE_9, zE_10, zE_11, zE_12, zE_13, zE_14, zE_neg, z1, if_false]
      · have hv := zvd_e (s := s) (k := k) (v := if 20 ≤ zprs s k then 1 else 0) (Or.inr ⟨fun z => z.elim e hb, rfl⟩)
        rw [← hv]
        by_cases c : 20 ≤ zprs s k
        · have c' : ¬ zprs s k < 20 := by omega
          rw [if_pos c]
          simp (discharger := omega) only [zm36_12, ↓eb, zE_0, zE_1, zE_2, zE_3, zE_4, zE_5, zE_6, zE_7, zE_8, zE_9, zE_10, zE_11, zE_12, zE_13, zE_14, zE_neg, zE_20, if_true, ↓zo_10, zc37 hK hC hM, ↓zb_s, zE_lt, c', if_false]
        · have c' : zprs s k < 20 := by omega
          rw [if_neg c]
          simp (discharger := omega) only [zm36_12, ↓eb, zE_0, zE_1, zE_2, zE_3, zE_4, zE_5, zE_6, zE_7, zE_8, zE_9, zE_10, zE_11, zE_12, zE_13, zE_14, zE_neg, zE_20, if_true, ↓zo_10, zc37 hK hC hM, ↓zb_s, zE_lt, c']
  by_cases c : zprs s k < 10
  · have f := fin 0 (zbo_0 fun z => by omega)
    simp (discharger := omega) only [zm36, ↓zo_10, zc37 hK hC hM, ↓zb_s, zE_0, zE_1, zE_2, zE_3, zE_4, zE_5, zE_6, zE_7, zE_8, zE_9, zE_10, zE_11, zE_12, zE_13, zE_14, zE_neg, zE_lt, c, if_true, f]
  · by_cases d : zsl' s (2 * k + 1) ≤ zsl' s (2 * k) + 1
    · have f := fin 0 (zbo_0 fun z => by omega)
      simp (discharger := omega) only [zm36, ↓zo_10, zc37 hK hC hM, ↓zb_s, zE_0, zE_1, zE_2, zE_3, zE_4, zE_5, zE_6, zE_7, zE_8, zE_9, zE_10, zE_11, zE_12, zE_13, zE_14, zE_neg, zE_lt, c, if_false, zE_add, zE_le, d, if_true, f]
    · have f := fin 1 (zbo_1 (by omega))
      simp (discharger := omega) only [zm36, ↓zo_10, zc37 hK hC hM, ↓zb_s, zE_0, zE_1, zE_2, zE_3, zE_4, zE_5, zE_6, zE_7, zE_8, zE_9, zE_10, zE_11, zE_12, zE_13, zE_14, zE_neg, zE_lt, c, if_false, zE_add, zE_le, d, f]
theorem zc34 {h : zH} {s : zS} (hK : zCK h s) (hC : zCM h s) (hM : zWm s) {k : Int} (k0 : 0 ≤ k) (k1 : k < 12) : zm34 (some (10, k.toNat)) h = some (.inl (zE (zvd s k)), h) := by
  have a1 := zc21 hC hM (w := 2 * k + 1) (by omega) (by omega)
  have a2 := zc21 hC hM (w := 2 * k) (by omega) (by omega)
  rw [zsk_1, zdv_1] at a1
  rw [zsk_0, zdv_0] at a2
  have a3 := hC.2 k k0 k1
  simp (discharger := omega) only [zm34, ↓zo_10, zCk5 hK, zCk6 hK, ↓zo_7, ↓zo_8, a1, a2, a3, ↓zb_s, zc36 hK hC hM]
theorem zc35 {h : zH} {s : zS} (hK : zCK h s) (hC : zCM h s) (hM : zWm s) {k : Int} (k0 : 0 ≤ k) (k1 : k < 12) : zm35 (some (10, k.toNat)) h = some (.inl (zE (zvd s k)), h) := by
  have a1 := zc22 hC hM (w := 2 * k + 1) (by omega) (by omega)
  have a2 := zc22 hC hM (w := 2 * k) (by omega) (by omega)
  rw [zsk_1, zdv_1] at a1
  rw [zsk_0, zdv_0] at a2
  have hp := zprs_r hM k0 k1
  rw [zm35, zE_0]
  refine zloop0 (W := fun n i c => zm35_4 zm35_15 n (some (10, k.toNat)) c (zE i) h) (N := zprs s k) (fun i c => c = zcpN s k i.toNat) (fun r => r = some (.inl (zE (zvd s k)), h)) 4607182418800017408 rfl hp.1 (by omega) ?_ ?_
  · rintro n c rfl
    simp (discharger := omega) only [zm35_4, zm35_15, ↓zo_10, zc37 hK hC hM, ↓zb_s, Int32.le_refl, if_true, zCk5 hK, zCk6 hK, ↓zo_7, ↓zo_8, a1, a2, zc36 hK hC hM]
  · rintro n i c i0 i1 rfl
    have e0 : ¬ zprs s k ≤ i := by omega
    have hs : zcpN s k (i + 1).toNat = zcst (zcpN s k i.toNat) (s 48 (600 * (2 * k + 1) + i)) (s 48 (600 * (2 * k) + i)) := by
      rw [show (i + 1).toNat = i.toNat + 1 by omega]
      show zcst _ (s 48 (600 * (2 * k + 1) + (i.toNat : Int))) (s 48 (600 * (2 * k) + (i.toNat : Int))) = _
      rw [show (i.toNat : Int) = i by omega]
    have a3 := zc33 hK hC hM (c := zcpN s k i.toNat) k0 k1 i0 (by omega) (by omega) (zcpN_n s k i.toNat)
    refine Or.inr ⟨_, rfl, ?_⟩
    rw [hs]
    simp (discharger := omega) only [zm35_4, ↓zo_10, zc37 hK hC hM, ↓zb_s, zE_le, e0, if_false, a3, zE_0, zE_1, zE_2, zE_3, zE_4, zE_5, zE_6, zE_7, zE_8, zE_9, zE_10, zE_11, zE_12, zE_13, zE_14, zE_neg, ↓zlet_s, zE_add]
