set_option maxRecDepth 16384
/-! wayOut, rise, forbidden, stale: both sides. -/
/-- reasons are the same both ways -/
theorem zrs_0 {s : zS} {a b : Int} : zrs s a b 0 ↔ zrs s b a 0 := by
  have one : ∀ a b, zrs s a b 0 → zrs s b a 0 := by
    rintro a b (⟨e, ⟨-, h⟩ | ⟨-, -, h⟩ | ⟨p, q, -⟩⟩ | ⟨e, ⟨-, h⟩ | ⟨-, -, h⟩ | ⟨p, q, -⟩⟩)
    · omega
    · omega
    · exact Or.inl ⟨e.symm, Or.inr (Or.inr ⟨q, p, rfl⟩)⟩
    · omega
    · omega
    · exact Or.inr ⟨fun z => e z.symm, Or.inr (Or.inr ⟨q, p, rfl⟩)⟩
  exact ⟨one a b, one b a⟩
def zfbP (s : zS) (a b : Int) : Prop := zlv s a (-1) ∧ zlv s b (-1) ∧ ¬ zrs s a b 0
theorem zfbP_c {s : zS} {a b : Int} : zfbP s a b ↔ zfbP s b a := by
  unfold zfbP
  rw [zrs_0]
  exact ⟨fun z => ⟨z.2.1, z.1, z.2.2⟩, fun z => ⟨z.2.1, z.1, z.2.2⟩⟩
/-- pairs: by the larger; by the smaller -/
noncomputable def zpr1 (P : Int → Int → Prop) : Nat → Int
  | 0 => 0
  | n + 1 => zpr1 P n + zcnt (fun b => P n b) n
/-- those with a smaller one from i on -/
noncomputable def zcnf (P : Int → Prop) (i : Nat) : Nat → Int
  | 0 => 0
  | m + 1 => zcnf P i m + zcn1 (P (i + m : Nat))
theorem zcnf_r (P : Int → Prop) (i : Nat) : ∀ m, 0 ≤ zcnf P i m ∧ zcnf P i m ≤ m
  | 0 => ⟨Int.le_refl _, Int.le_refl _⟩
  | m + 1 => by
    have h1 := zcnf_r P i m
    have h2 := zcn1_r (P (i + m : Nat))
    show 0 ≤ zcnf P i m + _ ∧ zcnf P i m + _ ≤ ((m : Int) + 1)
    omega
/-- by the smaller one -/
noncomputable def zpr2 (P : Int → Int → Prop) (n : Nat) : Nat → Int
  | 0 => 0
  | i + 1 => zpr2 P n i + zcnf (fun b => P i b) (i + 1) (n - (i + 1))
theorem zpr2_s {P : Int → Int → Prop} {n : Nat} : ∀ i, i ≤ n → zpr2 P (n + 1) i = zpr2 P n i + zcnt (fun a => P a n) i
  | 0, _ => rfl
  | i + 1, h => by
    have ih := zpr2_s (P := P) (n := n) i (by omega)
    show zpr2 P (n + 1) i + zcnf (fun b => P i b) (i + 1) (n + 1 - (i + 1)) = zpr2 P n i + zcnf (fun b => P i b) (i + 1) (n - (i + 1)) + (zcnt (fun a => P a n) i + zcn1 (P i n))
    rw [ih, show n + 1 - (i + 1) = (n - (i + 1)) + 1 by omega]
    show zpr2 P n i + zcnt (fun a => P a n) i + (zcnf (fun b => P i b) (i + 1) (n - (i + 1)) + zcn1 (P i ((i + 1 + (n - (i + 1)) : Nat) : Int))) = _
    rw [show (i + 1 + (n - (i + 1)) : Nat) = n by omega]
    omega
theorem zpr12 {P : Int → Int → Prop} (hs : ∀ a b, P a b ↔ P b a) : ∀ n, zpr2 P n n = zpr1 P n
  | 0 => rfl
  | n + 1 => by
    have ih := zpr12 hs n
    show zpr2 P (n + 1) n + zcnf (fun b => P n b) (n + 1) (n + 1 - (n + 1)) = zpr1 P n + zcnt (fun b => P n b) n
    rw [zpr2_s n (Nat.le_refl n), ih, Nat.sub_self]
    show zpr1 P n + zcnt (fun a => P a n) n + 0 = _
    rw [zcnt_cg n (fun i _ _ => hs i n)]
    exact Int.add_zero _
theorem zc48_13 {h : zH} {s : zS} (hR : zCr h) (hC : zCA h s) (hA : zWa s) (hK : zWk s) (hS : zWc s) {k : zq → Int32 → Int32 → zH → zRs Int32} {a t0 : Int} (a1 : 0 ≤ a) (a2 : a < s 2 0) : zm48_13 k zN0 (some (12, 0)) (zE t0) (zE a) (zE (a + 1)) h = k (some (12, 0)) (zE (t0 + zcnf (zfbP s a) (a.toNat + 1) ((s 2 0).toNat - (a.toNat + 1)))) (zE a) h := by
  have hn := hA.1
  have hua := zus_r s a
  have hpa := zus_p hA hK hS a1 a2
  have m1 : (s 2 0).toNat - (a.toNat + 1) = (s 2 0 - (a + 1)).toNat := by omega
  rw [m1]
  refine zloop (W := fun n i t => zm48_13 k n (some (12, 0)) (zE t) (zE a) (zE i) h) (N := s 2 0) (fun i t => t = t0 + zcnf (zfbP s a) (a.toNat + 1) (i - (a + 1)).toNat) (fun x => x = k (some (12, 0)) (zE (t0 + zcnf (zfbP s a) (a.toNat + 1) (s 2 0 - (a + 1)).toNat)) (zE a) h) (lo := a + 1) ?_ ?_ (s 2 0 - (a + 1)).toNat zN0 (a + 1) t0 (Int.le_refl _) (by omega) (by unfold zN0; omega) (by rw [Int.sub_self]; show t0 = t0 + 0; omega)
  · intro n t ht
    subst ht
    simp (discharger := omega) only [zm48_13, ↓zo_11, ↓zo_12, ↓zLAz hR hC, Int32.le_refl, if_true]
  · intro n i t h1 h2 ht
    have h3 : ¬ s 2 0 ≤ i := by omega
    have hu := zus_r s i
    have hp := zus_p hA hK hS (a := i) (by omega) h2
    refine Or.inr ⟨t + zcn1 (zfbP s a i), ?_, ?_⟩
    · rw [show (i + 1 - (a + 1)).toNat = (i - (a + 1)).toNat + 1 by omega]
      show _ = t0 + (zcnf (zfbP s a) (a.toNat + 1) (i - (a + 1)).toNat + zcn1 (zfbP s a ((a.toNat + 1 + (i - (a + 1)).toNat : Nat) : Int)))
      rw [show ((a.toNat + 1 + (i - (a + 1)).toNat : Nat) : Int) = i by omega, ht]
      omega
    · obtain ⟨v, v1, v2⟩ := zc1 hC hA a1 a2 (b := i) (by omega) h2
      have vr := zrs_r v1
      by_cases e1 : zus s a ≤ 0
      · rw [zcn1_f (show ¬ zfbP s a i from fun z => by have := hpa.mpr z.1; omega)]
        simp (discharger := omega) only [zm48_13, zm48_41, ↓zo_12, ↓zo_0, ↓zlet_s, ↓zLAz hR hC, ↓zLAg hR hC, zCa10 hC, zE_le, h3, if_false, zE_0, zE_1, zE_2, zE_3, zE_4, zE_5, zE_6, zE_7, zE_8, zE_9, zE_10, zE_11, zE_12, zE_13, zE_14, zE_neg, e1, if_true, zE_add, Int.add_zero]
      · by_cases e2 : zus s i ≤ 0
        · rw [zcn1_f (show ¬ zfbP s a i from fun z => by have := hp.mpr z.2.1; omega)]
          simp (discharger := omega) only [zm48_13, zm48_41, ↓zo_12, ↓zo_0, ↓zlet_s, ↓zLAz hR hC, ↓zLAg hR hC, zCa10 hC, zE_le, h3, if_false, zE_0, zE_1, zE_2, zE_3, zE_4, zE_5, zE_6, zE_7, zE_8, zE_9, zE_10, zE_11, zE_12, zE_13, zE_14, zE_neg, e1, e2, if_true, zE_add, Int.add_zero]
        · by_cases e3 : v = 0
          · subst e3
            rw [zcn1_f (show ¬ zfbP s a i from fun z => z.2.2 v1)]
            simp (discharger := omega) only [zm48_13, zm48_41, ↓zo_12, ↓zo_0, ↓zlet_s, ↓zLAz hR hC, ↓zLAg hR hC, zCa10 hC, zE_le, h3, if_false, zE_0, zE_1, zE_2, zE_3, zE_4, zE_5, zE_6, zE_7, zE_8, zE_9, zE_10, zE_11, zE_12, zE_13, zE_14, zE_neg, e1, e2, v2, ↓zb_s, if_true, zE_add, Int.add_zero]
          · rw [zcn1_t (show zfbP s a i from ⟨hpa.mp (by omega), hp.mp (by omega), fun z => e3 (zrs_u v1 z)⟩)]
            simp (discharger := omega) only [zm48_13, zm48_41, ↓zo_12, ↓zo_0, ↓zlet_s, ↓zLAz hR hC, ↓zLAg hR hC, zCa10 hC, zE_le, h3, if_false, zE_0, zE_1, zE_2, zE_3, zE_4, zE_5, zE_6, zE_7, zE_8, zE_9, zE_10, zE_11, zE_12, zE_13, zE_14, zE_neg, e1, e2, v2, ↓zb_s, zE_inj, e3, zE_add]
theorem zc48_4 {h : zH} {s : zS} (hR : zCr h) (hC : zCA h s) (hA : zWa s) (hK : zWk s) (hS : zWc s) : zm48 (some (12, 0)) h = some (.inl (zE (zpr2 (zfbP s) (s 2 0).toNat (s 2 0).toNat)), h) := by
  have hn := hA.1
  rw [zm48, zE_0]
  refine zloop0 (W := fun n i t => zm48_4 n (some (12, 0)) (zE t) (zE i) h) (N := s 2 0) (fun i t => t = zpr2 (zfbP s) (s 2 0).toNat i.toNat) (fun x => x = some (.inl (zE (zpr2 (zfbP s) (s 2 0).toNat (s 2 0).toNat)), h)) 0 rfl hn.1 (by omega) ?_ ?_
  · intro n t ht
    subst ht
    simp (discharger := omega) only [zm48_4, ↓zo_12, ↓zLAz hR hC, Int32.le_refl, if_true]
  · intro n i t h1 h2 ht
    have h3 : ¬ s 2 0 ≤ i := by omega
    refine Or.inr ⟨t + zcnf (zfbP s i) (i.toNat + 1) ((s 2 0).toNat - (i.toNat + 1)), ?_, ?_⟩
    · rw [show (i + 1).toNat = i.toNat + 1 by omega]
      show _ = zpr2 (zfbP s) (s 2 0).toNat i.toNat + zcnf (fun b => zfbP s (i.toNat : Int) b) (i.toNat + 1) _
      rw [← ht, Int.toNat_of_nonneg h1]
    · simp (discharger := omega) only [zm48_4, ↓zo_12, ↓zLAz hR hC, zE_le, h3, if_false]
      rw [zE_1, zE_add, zlet_s, zc48_13 hR hC hA hK hS h1 h2, zm48_43, zE_1, zE_add, zlet_s]
