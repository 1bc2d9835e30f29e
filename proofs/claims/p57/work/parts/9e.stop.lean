set_option maxRecDepth 16384
/-! stop: both sides. -/
noncomputable def zcoS (s t : zS) (i : Int) : zS := zup (zup (zup t 45 0 (t 45 0 + zcn1 (zoth3 s t i))) 47 (2 * i) (zitp (zoth2 s t i) 0 (t 47 (2 * i)))) 47 (2 * i + 1) (zitp (zoth2 s t i) 0 (t 47 (2 * i + 1)))
noncomputable def zco (s t : zS) : Nat → zS
  | 0 => t
  | n + 1 => zcoS s (zco s t n) n
theorem zco_i {s t : zS} {i : Int} (i0 : 0 ≤ i) : zco s t (i + 1).toNat = zcoS s (zco s t i.toNat) i := by
  rw [show (i + 1).toNat = i.toNat + 1 by omega]
  show zcoS s _ (i.toNat : Int) = _
  rw [Int.toNat_of_nonneg i0]
theorem zco_j {s t : zS} : ∀ n : Nat, (∀ j, j ≠ 45 → j ≠ 47 → zco s t n j = t j) ∧ (zco s t n 45 0 = t 45 0 + zcnt (zoth3 s t) n ∧ ∀ u, u ≠ 0 → zco s t n 45 u = t 45 u) ∧ ∀ u, zco s t n 47 u = if 0 ≤ u ∧ u < 2 * n then zitp (zoth2 s t (u / 2)) 0 (t 47 u) else t 47 u
  | 0 => ⟨fun _ _ _ => rfl, ⟨(Int.add_zero _).symm, fun _ _ => rfl⟩, fun u => (if_neg (by omega)).symm⟩
  | n + 1 => by
    obtain ⟨p1, ⟨p2, p3⟩, p4⟩ := zco_j (s := s) (t := t) n
    have e12 := p1 12 (by decide) (by decide)
    have e13 := p1 13 (by decide) (by decide)
    have e14 := p1 14 (by decide) (by decide)
    have o2 : ∀ u, zoth2 s (zco s t n) u = zoth2 s t u := fun u => by
      unfold zoth2
      rw [e12, e13]
    have o3 : ∀ u, zoth3 s (zco s t n) u = zoth3 s t u := fun u => by
      unfold zoth3
      rw [o2, e14]
    refine ⟨fun j h h1 => ?_, ⟨?_, fun u hu => ?_⟩, fun u => ?_⟩
    · rw [← p1 j h h1]
      funext u
      exact (zup_j h1).trans ((zup_j h1).trans (zup_j h))
    · show zcoS s (zco s t n) n 45 0 = t 45 0 + (zcnt (zoth3 s t) n + zcn1 (zoth3 s t n))
      unfold zcoS
      rw [zup_j (by decide), zup_j (by decide), zup_s, p2, o3, Int.add_assoc]
    · show zcoS s (zco s t n) n 45 u = _
      unfold zcoS
      rw [zup_j (by decide), zup_j (by decide), zup_a hu, p3 u hu]
    · show zup (zup (zup (zco s t n) 45 0 (zco s t n 45 0 + zcn1 (zoth3 s (zco s t n) n))) 47 (2 * n) (zitp (zoth2 s (zco s t n) n) 0 (zco s t n 47 (2 * n)))) 47 (2 * n + 1) (zitp (zoth2 s (zco s t n) n) 0 (zco s t n 47 (2 * n + 1))) 47 u = _
      rw [zif_u, zif_u, zup_j (by decide), o2, p4, p4, p4]
      by_cases c1 : u = 2 * (n : Int) + 1
      · rw [if_pos c1, if_neg (by omega), if_pos (by omega), show u / 2 = (n : Int) by omega, c1]
      · rw [if_neg c1]
        by_cases c2 : u = 2 * (n : Int)
        · rw [if_pos c2, if_neg (by omega), if_pos (by omega), show u / 2 = (n : Int) by omega, c2]
        · rw [if_neg c2]
          by_cases c3 : 0 ≤ u ∧ u < 2 * (n : Int)
          · rw [if_pos c3, if_pos (by omega)]
          · rw [if_neg c3, if_neg (by omega)]
theorem zcnt_ap {P : Int → Prop} (m : Nat) : ∀ k : Nat, zcnt P (m + k) = zcnt P m + zcnt (fun u => P ((m : Int) + u)) k
  | 0 => (Int.add_zero _).symm
  | k + 1 => by
    show zcnt P (m + k) + zcn1 (P ((m + k : Nat) : Int)) = zcnt P m + (zcnt (fun u => P ((m : Int) + u)) k + zcn1 (P ((m : Int) + (k : Int))))
    rw [zcnt_ap m k, Int.add_assoc, show ((m + k : Nat) : Int) = (m : Int) + (k : Int) by omega]
theorem zcnt_3 {P : Int → Prop} {v : Int} (v0 : 0 ≤ v) (v1 : v < 4) (ho : ∀ u, 0 ≤ u → u < 12 → ¬ (3 * v ≤ u ∧ u < 3 * v + 3) → ¬ P u) : zcnt P 12 = zcnt (fun u => P (3 * v + u)) 3 := by
  have e : (12 : Nat) = ((3 * v).toNat + 3) + (9 - 3 * v).toNat := by omega
  have h1 : zcnt P (3 * v).toNat = 0 := (zcnt_0 _).mpr fun ⟨u, u0, u1, u2⟩ => ho u u0 (by omega) (by omega) u2
  have h2 : zcnt (fun u => P ((((3 * v).toNat + 3 : Nat) : Int) + u)) (9 - 3 * v).toNat = 0 := (zcnt_0 _).mpr fun ⟨u, u0, u1, u2⟩ => ho _ (by omega) (by omega) (by omega) u2
  rw [e, zcnt_ap, zcnt_ap, h1, h2, Int.zero_add, Int.add_zero, Int.toNat_of_nonneg (by omega)]
theorem zco_12 {s t : zS} (ho : ∀ u, ¬ (0 ≤ u ∧ u < 12) → ¬ zoth2 s t u) : zco s t 12 = zup (zmid s t) 45 0 (t 45 0 + zcnt (zoth3 s t) 12) := by
  obtain ⟨p1, ⟨p2, p3⟩, p4⟩ := zco_j (s := s) (t := t) 12
  funext j u
  by_cases c : j = 45
  · subst c
    by_cases d : u = 0
    · subst d
      rw [p2, zup_s]
    · rw [p3 u d, zup_a d, zmid_j (by decide)]
  · rw [zup_j c]
    by_cases d : j = 47
    · subst d
      rw [p4, zmid_47]
      by_cases f : 0 ≤ u ∧ u < 2 * ((12 : Nat) : Int)
      · rw [if_pos f]
      · rw [if_neg f, zitp_f (ho _ (by omega))]
    · rw [p1 j c d, zmid_j d]
theorem zco_W {s t : zS} {c : Int} (hW : zWf t) : zWf (zup (zmid s t) 45 0 c) := by
  obtain ⟨wA, wK, wC, wD, wP, wR, wZ, wT, wG, wE, wM, wX⟩ := hW
  refine ⟨wA, wK, wC, wD, wP, wR, wZ, wT, wG, wE, ⟨wM.1, fun w w0 w1 => ?_⟩, wX⟩
  obtain ⟨a1, a2⟩ := wM.2 w w0 w1
  have h6 := wM.1
  have e : zup (zmid s t) 45 0 c 47 w = zitp (zoth2 s t (w / 2)) 0 (t 47 w) := zmid_47
  have e46 : zup (zmid s t) 45 0 c 46 0 = t 46 0 := rfl
  rw [e, e46]
  by_cases d : zoth2 s t (w / 2)
  · rw [zitp_t d]
    exact ⟨by omega, fun x x0 x1 => by omega⟩
  · rw [zitp_f d]
    exact ⟨a1, a2⟩
/-- the class counts -/
theorem zc60 {h : zH} {s t : zS} {v : Int} (hC : zClM h s t) (v0 : 0 ≤ v) (v1 : v < 4) (ho : ∀ u, ¬ (3 * v ≤ u ∧ u < 3 * v + 3) → ¬ zoth3 s t u) : ∃ h', zm60 (some (12, 0)) (some (9, v.toNat)) h = some (.inl (), h') ∧ zCl h' (zco s t 12) ∧ zfrC h h' := by
  have z1 : ¬ zE 1 = zE 0 := by decide
  rw [zco_12 (fun u hu z => ho u (by omega) (Or.inl z)), zcnt_3 v0 v1 (fun u _ _ hu => ho u hu)]
  rw [zm60, zE_0]
  refine zloop0 (W := fun n i hx => zm60_2 n (some (12, 0)) (some (9, v.toNat)) (zE i) hx) (N := 3) (fun i hx => zCl (zfl hx) (zup (zmid s t) 45 0 (t 45 0 + zcnt (fun u => zoth3 s t (3 * v + u)) i.toNat)) ∧ (∀ k : Int, 0 ≤ k → k < 12 → zi hx 10 k.toNat 3 = if 3 * v ≤ k ∧ k < 3 * v + i then 0 else zE (zcn1 (zoth3 s t k))) ∧ zfrC h hx) (fun r => ∃ h', r = some (.inl (), h') ∧ zCl h' (zup (zmid s t) 45 0 (t 45 0 + zcnt (fun u => zoth3 s t (3 * v + u)) 3)) ∧ zfrC h h') h ⟨?_, fun k k0 k1 => by rw [if_neg (by omega)]; exact hC.2 k k0 k1, zfrC.rf⟩ (by omega) (by omega) ?_ ?_
  · rw [zup_id (by rw [zmid_j (by decide)]; exact (Int.add_zero _).symm)]
    exact hC.1
  · intro n hx ⟨q1, q2, q3⟩
    refine ⟨hx, ?_, zfl_D q1 (fun k k0 k1 => ?_), q3⟩
    · rw [zm60_2, if_pos (by rw [zE_3]; exact Int32.le_refl _)]
    · rw [q2 k k0 k1]
      by_cases c : 3 * v ≤ k ∧ k < 3 * v + 3
      · rw [if_pos c]
      · rw [if_neg c, zcn1_f (ho k c)]
        exact zE_0.symm
  · intro n i hx i0 i1 ⟨q1, q2, q3⟩
    have n3 : ¬ (3 : Int32) ≤ zE i := by rw [zE_3, zE_le (by omega) (by omega) (by omega) (by omega)]; omega
    have cV : zCV hx (zup (zmid s t) 45 0 (t 45 0 + zcnt (fun u => zoth3 s t (3 * v + u)) i.toNat)) := q1.2.2.2.2.2.2.2.2.1
    have f := q2 (3 * v + i) (by omega) (by omega)
    rw [if_neg (by omega)] at f
    have g : zi hx 12 0 14 = zE (t 45 0 + zcnt (fun u => zoth3 s t (3 * v + u)) i.toNat) := by
      have cs : zCs hx (zup (zmid s t) 45 0 (t 45 0 + zcnt (fun u => zoth3 s t (3 * v + u)) i.toNat)) := q1.2.1
      have := zCs14 cs
      rwa [zup_s] at this
    have en : zcnt (fun u => zoth3 s t (3 * v + u)) (i + 1).toNat = zcnt (fun u => zoth3 s t (3 * v + u)) i.toNat + zcn1 (zoth3 s t (3 * v + i)) := by
      rw [show (i + 1).toNat = i.toNat + 1 by omega]
      show _ + zcn1 (zoth3 s t (3 * v + (i.toNat : Int))) = _
      rw [Int.toNat_of_nonneg i0]
    refine Or.inr ?_
    show ∃ x', (zCl (zfl x') (zup (zmid s t) 45 0 (t 45 0 + zcnt (fun u => zoth3 s t (3 * v + u)) (i + 1).toNat)) ∧ (∀ k : Int, 0 ≤ k → k < 12 → zi x' 10 k.toNat 3 = if 3 * v ≤ k ∧ k < 3 * v + (i + 1) then 0 else zE (zcn1 (zoth3 s t k))) ∧ zfrC h x') ∧ zm60_2 (n + 1) (some (12, 0)) (some (9, v.toNat)) (zE i) hx = zm60_2 n (some (12, 0)) (some (9, v.toNat)) (zE (i + 1)) x'
    rw [en, zm60_2, if_neg n3, zo_9, zLKa cV v0 v1 i0 i1, zo_10, f]
    by_cases c : zoth3 s t (3 * v + i)
    · rw [zcn1_t c, zE_0, if_neg z1, zo_12, g, zE_1, zE_add, zlet_s, zlet_s, zm60_22, zlet_s, zE_1, zE_add]
      refine ⟨_, ⟨?_, ?_, q3.tr ((zfrC_i (by unfold zpc1; decide)).tr (zfrC_i (by unfold zpc1; decide)))⟩, rfl⟩
      · have w := zw_12_14 (x := t 45 0 + zcnt (fun u => zoth3 s t (3 * v + u)) i.toNat + 1) q1
        have e2 : zup (zup (zmid s t) 45 0 (t 45 0 + zcnt (fun u => zoth3 s t (3 * v + u)) i.toNat)) 45 0 (t 45 0 + zcnt (fun u => zoth3 s t (3 * v + u)) i.toNat + 1) = zup (zmid s t) 45 0 (t 45 0 + (zcnt (fun u => zoth3 s t (3 * v + u)) i.toNat + 1)) := by
          funext j u
          unfold zup
          by_cases d : j = 45 ∧ u = 0
          · rw [if_pos d, if_pos d, Int.add_assoc]
          · rw [if_neg d, if_neg d, if_neg d]
        rw [e2] at w
        rw [zfl_sf, zfl_si (by decide)]
        exact w
      · intro k k0 k1
        by_cases d : k = 3 * v + i
        · rw [if_pos (by omega), d]
          exact zi_s.trans zE_0.symm
        · rw [zi_i (by omega)]
          show zi hx 10 k.toNat 3 = _
          rw [q2 k k0 k1]
          by_cases d2 : 3 * v ≤ k ∧ k < 3 * v + i
          · rw [if_pos d2, if_pos (by omega)]
            exact zE_0
          · rw [if_neg d2, if_neg (by omega)]
    · rw [zcn1_f c, zE_0, if_pos rfl, Int.add_zero, zm60_22, zlet_s, zE_1, zE_add]
      refine ⟨hx, ⟨q1, ?_, q3⟩, rfl⟩
      intro k k0 k1
      rw [q2 k k0 k1]
      by_cases d : k = 3 * v + i
      · rw [d, if_neg (by omega), if_pos (by omega), zcn1_f c]
      · by_cases d2 : 3 * v ≤ k ∧ k < 3 * v + i
        · rw [if_pos d2, if_pos (by omega)]
          exact zE_0
        · rw [if_neg d2, if_neg (by omega)]
