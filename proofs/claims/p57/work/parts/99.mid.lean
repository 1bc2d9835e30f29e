set_option maxRecDepth 16384
/-! In the middle of a step: what has changed is told at the spots; the model tells it at the end. -/
def zfl (h : zH) : zH := (h.1, h.2.1, fun K i j => if K = 10 ∧ j = 3 then 0 else h.2.2.1 K i j, h.2.2.2)
theorem zfl_i {h : zH} {K i j : Nat} (e : ¬ (K = 10 ∧ j = 3)) : zi (zfl h) K i j = zi h K i j := if_neg e
theorem zfl_si {h : zH} {K i j : Nat} {v : Int32} (e : ¬ (K = 10 ∧ j = 3)) : zfl (zsi h K i j v) = zsi (zfl h) K i j v := by
  have k : (fun K' i' j' => if K' = 10 ∧ j' = 3 then 0 else zu h.2.2.1 K i j v K' i' j') = zu (fun K' i' j' => if K' = 10 ∧ j' = 3 then 0 else h.2.2.1 K' i' j') K i j v := by
    funext K' i' j'
    unfold zu
    dsimp only
    by_cases c : K' = K ∧ i' = i ∧ j' = j
    · obtain ⟨rfl, rfl, rfl⟩ := c
      rw [if_neg e, if_pos ⟨rfl, rfl, rfl⟩, if_pos ⟨rfl, rfl, rfl⟩]
    · rw [if_neg c, if_neg c]
  show (h.1, h.2.1, (fun K' i' j' => if K' = 10 ∧ j' = 3 then 0 else zu h.2.2.1 K i j v K' i' j'), h.2.2.2) = _
  rw [k]
  rfl
theorem zfl_sf {h : zH} {i : Nat} {v : Int32} : zfl (zsi h 10 i 3 v) = zfl h := by
  have k : (fun K' i' j' => if K' = 10 ∧ j' = 3 then 0 else zu h.2.2.1 10 i 3 v K' i' j') = (fun K' i' j' => if K' = 10 ∧ j' = 3 then 0 else h.2.2.1 K' i' j') := by
    funext K' i' j'
    by_cases c : K' = 10 ∧ j' = 3
    · rw [if_pos c, if_pos c]
    · rw [if_neg c, if_neg c]
      exact if_neg fun z => c ⟨z.1, z.2.2⟩
  show (h.1, h.2.1, (fun K' i' j' => if K' = 10 ∧ j' = 3 then 0 else zu h.2.2.1 10 i 3 v K' i' j'), h.2.2.2) = _
  rw [k]
  rfl
theorem zfl_sr {h : zH} {K i j : Nat} {v : zq} : zfl (zsr h K i j v) = zsr (zfl h) K i j v := rfl
theorem zfl_sd {h : zH} {K i j : Nat} {v : UInt64} : zfl (zsd h K i j v) = zsd (zfl h) K i j v := rfl
theorem zfl_au {h : zH} {a d : Int} : zfl (zau h a d) = zau (zfl h) a d := by
  have k : (fun K i j => if K = 10 ∧ j = 3 then 0 else (if K = 0 ∧ a ≠ -1 ∧ i = a.toNat ∧ j = 10 then h.2.2.1 K i j + zE d else h.2.2.1 K i j)) = (fun K i j => if K = 0 ∧ a ≠ -1 ∧ i = a.toNat ∧ j = 10 then (if K = 10 ∧ j = 3 then 0 else h.2.2.1 K i j) + zE d else (if K = 10 ∧ j = 3 then 0 else h.2.2.1 K i j)) := by
    funext K i j
    by_cases c : K = 0 ∧ a ≠ -1 ∧ i = a.toNat ∧ j = 10
    · rw [if_pos c, if_pos c, if_neg (fun z => by omega), if_neg (fun z => by omega)]
    · rw [if_neg c, if_neg c]
  show (h.1, h.2.1, (fun K i j => if K = 10 ∧ j = 3 then 0 else (if K = 0 ∧ a ≠ -1 ∧ i = a.toNat ∧ j = 10 then h.2.2.1 K i j + zE d else h.2.2.1 K i j)), h.2.2.2) = _
  rw [k]
  rfl
theorem zfl_em {h : zH} {K0 i0 B0 n : Nat} (e : K0 ≠ 10) : zfl (zemI K0 i0 B0 n h) = zemI K0 i0 B0 n (zfl h) := by
  have k : (fun K i j => if K = 10 ∧ j = 3 then 0 else (if K = K0 ∧ i = i0 ∧ (j = 1 ∨ j = 2) then 0 else if K = 31 ∧ i = B0 ∧ j < n then 0 else h.2.2.1 K i j)) = (fun K i j => if K = K0 ∧ i = i0 ∧ (j = 1 ∨ j = 2) then 0 else if K = 31 ∧ i = B0 ∧ j < n then 0 else (if K = 10 ∧ j = 3 then 0 else h.2.2.1 K i j)) := by
    funext K i j
    by_cases c : K = 10 ∧ j = 3
    · rw [if_pos c, if_pos c, if_neg (fun z => by omega), if_neg (fun z => by omega)]
    · rw [if_neg c, if_neg c]
  show (h.1, h.2.1, (fun K i j => if K = 10 ∧ j = 3 then 0 else (if K = K0 ∧ i = i0 ∧ (j = 1 ∨ j = 2) then 0 else if K = 31 ∧ i = B0 ∧ j < n then 0 else h.2.2.1 K i j)), h.2.2.2) = _
  rw [k]
  rfl
theorem zfl_k {P : Nat → Prop} {h : zH} (hp : ¬ P 10) : zKp P h (zfl h) := fun k hk => by
  have e : k ≠ 10 := fun z => hp (z ▸ hk)
  refine ⟨rfl, rfl, ?_, rfl, rfl, rfl⟩
  funext i j
  exact if_neg fun z => e z.1
theorem zfl_k' {P : Nat → Prop} {h : zH} (hp : ¬ P 10) : zKp P (zfl h) h := fun k hk => by
  obtain ⟨a, b, c, d, e, f⟩ := zfl_k (h := h) hp k hk
  exact ⟨a.symm, b.symm, c.symm, d.symm, e.symm, f.symm⟩
theorem zfl_C {h : zH} {s : zS} (hC : zCl h s) : zCl (zfl h) s := by
  obtain ⟨c1, c2, c3, c4, c5, c6, c7, c8, c9, c10, c11, c12, c13, c14⟩ := hC
  refine ⟨c1, c2, c3, c4, c5, c6, c7, c8, c9, fun u u0 u1 => ?_, c11, c12, zCM_w c13 (zfl_k (by decide)) rfl rfl rfl rfl, c14⟩
  obtain ⟨p0, p1, p2, p3, p4, p5⟩ := c10 u u0 u1
  exact ⟨p0, p1, p2, (show (if 10 = 10 ∧ 3 = 3 then (0 : Int32) else zi h 10 u.toNat 3) = 0 from if_pos ⟨rfl, rfl⟩), p4, p5⟩
theorem zfl_D {h : zH} {s : zS} (hC : zCl (zfl h) s) (hf : ∀ k : Int, 0 ≤ k → k < 12 → zi h 10 k.toNat 3 = 0) : zCl h s := by
  obtain ⟨c1, c2, c3, c4, c5, c6, c7, c8, c9, c10, c11, c12, c13, c14⟩ := hC
  refine ⟨c1, c2, c3, c4, c5, c6, c7, c8, c9, fun u u0 u1 => ?_, c11, c12, zCM_w c13 (zfl_k' (by decide)) rfl rfl rfl rfl, c14⟩
  obtain ⟨p0, p1, p2, p3, p4, p5⟩ := c10 u u0 u1
  exact ⟨p0, p1, p2, hf u u0 u1, p4, p5⟩
/-- otherwise than ahead of the step -/
def zoth2 (s0 s : zS) (k : Int) : Prop := s 12 k ≠ s0 12 k ∨ s 13 k ≠ s0 13 k
def zoth3 (s0 s : zS) (k : Int) : Prop := zoth2 s0 s k ∨ s 14 k ≠ s0 14 k
noncomputable def zmid (s0 s : zS) : zS := fun j a => if j = 47 then zitp (zoth2 s0 s (a / 2)) 0 (s 47 a) else s j a
theorem zmid_j {s0 s : zS} {j : Nat} (e : j ≠ 47) : zmid s0 s j = s j := by
  funext a
  exact if_neg e
theorem zmid_47 {s0 s : zS} {a : Int} : zmid s0 s 47 a = zitp (zoth2 s0 s (a / 2)) 0 (s 47 a) := if_pos rfl
theorem zmid_u {s0 s : zS} {j : Nat} {a v : Int} (e1 : j ≠ 47) (e2 : j ≠ 12) (e3 : j ≠ 13) : zmid s0 (zup s j a v) = zup (zmid s0 s) j a v := by
  funext j' a'
  by_cases c : j' = 47
  · subst c
    rw [zmid_47, zup_j (Ne.symm e1), zup_j (Ne.symm e1), zmid_47]
    unfold zoth2
    rw [zup_j (Ne.symm e2), zup_j (Ne.symm e3)]
  · rw [zmid_j c]
    unfold zup
    rw [zmid_j c]
def zClM (h : zH) (s0 s : zS) : Prop := zCl (zfl h) (zmid s0 s) ∧ ∀ k : Int, 0 ≤ k → k < 12 → zi h 10 k.toNat 3 = zE (zcn1 (zoth3 s0 s k))
theorem zClM_0 {h : zH} {s0 s : zS} (hC : zCl h s) (e2 : s0 12 = s 12) (e3 : s0 13 = s 13) (e4 : s0 14 = s 14) : zClM h s0 s := by
  have n2 : ∀ k, ¬ zoth2 s0 s k := fun k z => by
    unfold zoth2 at z
    rw [e2, e3] at z
    exact z.elim (fun z => z rfl) (fun z => z rfl)
  have em : zmid s0 s = s := by
    funext j a
    by_cases c : j = 47
    · subst c
      rw [zmid_47, zitp_f (n2 _)]
    · rw [zmid_j c]
  refine ⟨by rw [em]; exact zfl_C hC, fun k k0 k1 => ?_⟩
  rw [zcn1_f (fun z => z.elim (n2 k) fun z => z (by rw [e4]))]
  exact (zCk3 hC.2.2.2.2.2.2.2.2.2.1 k0 k1).trans zE_0
theorem zsuH_fl {h : zH} {a b st cd : Int} : zfl (zsuH h a b st cd) = zsuH (zfl h) a b st cd := by
  unfold zsuH
  rw [zfl_au, zfl_au, zfl_au, zfl_au]
theorem zstH'_fl {h : zH} {k a b st cd sh : Int} : zfl (zstH' h k a b st cd sh) = zstH' (zfl h) k a b st cd sh := by
  unfold zstH'
  rw [zfl_si (by decide), zfl_sr, zfl_sr, zsuH_fl]
theorem zemH_fl {h : zH} {k : Int} : zfl (zemH h k) = zemH (zfl h) k := by
  unfold zemH
  rw [zfl_em (by decide), zfl_em (by decide), zfl_sd]
theorem zstH'_f {h : zH} {k a b st cd sh : Int} {i : Nat} : zi (zstH' h k a b st cd sh) 10 i 3 = zi h 10 i 3 := zi_j (by decide)
theorem zemH_f {h : zH} {k : Int} {i : Nat} : zi (zemH h k) 10 i 3 = zi h 10 i 3 := rfl
theorem zc29_33 {s : zS} {k st cd sh : Int} {hh : zH} (e0 : zr hh 10 k.toNat 0 = zrf 0 (s 12 k)) (e1 : zr hh 10 k.toNat 1 = zrf 0 (s 13 k)) (a0 : -1 ≤ s 12 k) (b0 : -1 ≤ s 13 k) (s0 : -1 ≤ st) (c0 : -1 ≤ cd) : zm29_33 (some (10, k.toNat)) (zrf 0 st) (zrf 0 cd) (zE sh) hh = some (.inl (), zstH' hh k (s 12 k) (s 13 k) st cd sh) := by
  rw [zm29_33, zo_10, e0, zE_m1, zc30 a0, zb_s, show zr (zau hh (s 12 k) (-1)) 10 k.toNat 1 = zrf 0 (s 13 k) from e1, zc30 b0, zb_s, zE_1, zc30 s0, zb_s, zc30 c0, zb_s, zlet_s, zlet_s, zlet_s]
  rfl
/-- a spot becomes another -/
theorem zc29 {h : zH} {s0 s : zS} {k st cd sh : Int} (hC : zClM h s0 s) (k0 : 0 ≤ k) (k1 : k < 12) (a0 : -1 ≤ s 12 k) (b0 : -1 ≤ s 13 k) (g0 : 0 ≤ s 14 k ∧ s 14 k ≤ 100) (t0 : -1 ≤ st) (c0 : -1 ≤ cd) (h0 : 0 ≤ sh ∧ sh ≤ 100)
    (C1 : (st ≠ s 12 k ∨ cd ≠ s 13 k) → (st ≠ s0 12 k ∨ cd ≠ s0 13 k)) (C2 : (st ≠ s 12 k ∨ cd ≠ s 13 k ∨ sh ≠ s 14 k) → (st ≠ s0 12 k ∨ cd ≠ s0 13 k ∨ sh ≠ s0 14 k)) :
    ∃ h', zm29 (some (10, k.toNat)) (zrf 0 st) (zrf 0 cd) (zE sh) h = some (.inl (), h') ∧ zClM h' s0 (zstS' s k st cd sh) ∧ zKp (fun k => ¬ zpc1 k) h h' ∧ zce h' = zce h ∧ zso h' = zso h := by
  obtain ⟨hC, hf⟩ := hC
  have cK := hC.2.2.2.2.2.2.2.2.2.1
  have q0 : zr h 10 k.toNat 0 = zrf 0 (s 12 k) := by
    have := zCk0 cK k0 k1
    rwa [zmid_j (by decide)] at this
  have q1 : zr h 10 k.toNat 1 = zrf 0 (s 13 k) := by
    have := zCk1 cK k0 k1
    rwa [zmid_j (by decide)] at this
  have q2 : zi h 10 k.toNat 2 = zE (s 14 k) := by
    have := zCk2 cK k0 k1
    rwa [zmid_j (by decide)] at this
  have q5 : zr h 10 k.toNat 5 = some (7, k.toNat) := zCk5 cK k0 k1
  have q6 : zr h 10 k.toNat 6 = some (8, k.toNat) := zCk6 cK k0 k1
  have eS : zrf 0 st = zr h 10 k.toNat 0 ↔ st = s 12 k := by rw [q0, zrf_i t0 a0]
  have eC : zrf 0 cd = zr h 10 k.toNat 1 ↔ cd = s 13 k := by rw [q1, zrf_i c0 b0]
  have e12 : ∀ u, zstS' s k st cd sh 12 u = if u = k then st else s 12 u := fun u => by
    show zup s 12 k st 12 u = _
    exact zif_u
  have e13 : ∀ u, zstS' s k st cd sh 13 u = if u = k then cd else s 13 u := fun u => by
    show zup s 13 k cd 13 u = _
    exact zif_u
  have e14 : ∀ u, zstS' s k st cd sh 14 u = if u = k then sh else s 14 u := fun u => by
    show zup s 14 k sh 14 u = _
    exact zif_u
  have oth : ∀ u, u ≠ k → zoth2 s0 (zstS' s k st cd sh) u = zoth2 s0 s u := fun u e => by
    unfold zoth2
    rw [e12, e13, if_neg e, if_neg e]
  have oth3 : ∀ u, u ≠ k → zoth3 s0 (zstS' s k st cd sh) u = zoth3 s0 s u := fun u e => by
    unfold zoth3
    rw [oth u e, e14, if_neg e]
  have othk : zoth2 s0 (zstS' s k st cd sh) k ↔ (st ≠ s0 12 k ∨ cd ≠ s0 13 k) := by
    unfold zoth2
    rw [e12, e13, if_pos rfl, if_pos rfl]
  have oth3k : zoth3 s0 (zstS' s k st cd sh) k ↔ (st ≠ s0 12 k ∨ cd ≠ s0 13 k ∨ sh ≠ s0 14 k) := by
    unfold zoth3
    rw [othk, e14, if_pos rfl, or_assoc]
  by_cases same : st = s 12 k ∧ cd = s 13 k ∧ sh = s 14 k
  · obtain ⟨rfl, rfl, rfl⟩ := same
    have hs : zstS' s k (s 12 k) (s 13 k) (s 14 k) = s := by
      funext j u
      unfold zstS' zup
      by_cases c : j = 14 ∧ u = k
      · rw [if_pos c, c.1, c.2]
      · rw [if_neg c]
        by_cases c : j = 13 ∧ u = k
        · rw [if_pos c, c.1, c.2]
        · rw [if_neg c]
          by_cases c : j = 12 ∧ u = k
          · rw [if_pos c, c.1, c.2]
          · rw [if_neg c]
    rw [hs]
    refine ⟨h, ?_, ⟨hC, hf⟩, zKp.rf, rfl, rfl⟩
    rw [zm29, zo_10, if_pos q0.symm, if_pos q1.symm, if_pos q2.symm]
  · have hgo : zm29 (some (10, k.toNat)) (zrf 0 st) (zrf 0 cd) (zE sh) h = zm29_13 (some (10, k.toNat)) (zrf 0 st) (zrf 0 cd) (zE sh) h := by
      rw [zm29, zo_10]
      by_cases c1 : st = s 12 k
      · rw [if_pos (eS.mpr c1)]
        by_cases c2 : cd = s 13 k
        · rw [if_pos (eC.mpr c2), if_neg]
          rw [q2, zE_inj (by omega) (by omega) (by omega) (by omega)]
          exact fun z => same ⟨c1, c2, z⟩
        · rw [if_neg (fun z => c2 (eC.mp z))]
      · rw [if_neg (fun z => c1 (eS.mp z))]
    have diff : st ≠ s 12 k ∨ cd ≠ s 13 k ∨ sh ≠ s 14 k := by
      by_cases c1 : st = s 12 k
      · by_cases c2 : cd = s 13 k
        · exact Or.inr (Or.inr fun z => same ⟨c1, c2, z⟩)
        · exact Or.inr (Or.inl c2)
      · exact Or.inl c1
    have flag : ∀ h' : zH, (∀ u : Int, 0 ≤ u → u < 12 → zi h' 10 u.toNat 3 = zi (zsi h 10 k.toNat 3 (1 : Int32)) 10 u.toNat 3) → ∀ u : Int, 0 ≤ u → u < 12 → zi h' 10 u.toNat 3 = zE (zcn1 (zoth3 s0 (zstS' s k st cd sh) u)) := fun h' hh u u0 u1 => by
      rw [hh u u0 u1]
      by_cases c : u = k
      · subst c
        rw [zcn1_t (oth3k.mpr (C2 diff)), zi_s, zE_1]
      · rw [oth3 u c, zi_i (by omega)]
        exact hf u u0 u1
    by_cases chg : st = s 12 k ∧ cd = s 13 k
    · refine ⟨zstH' (zsi h 10 k.toNat 3 (1 : Int32)) k (s 12 k) (s 13 k) st cd sh, ?_, ⟨?_, flag _ (fun u _ _ => zstH'_f)⟩, ?_, rfl, rfl⟩
      · rw [hgo, zm29_13, zo_10, zlet_s, if_pos (show zrf 0 st = zr (zsi h 10 k.toNat 3 (1 : Int32)) 10 k.toNat 0 from eS.mpr chg.1), if_pos (show zrf 0 cd = zr (zsi h 10 k.toNat 3 (1 : Int32)) 10 k.toNat 1 from eC.mpr chg.2)]
        exact zc29_33 q0 q1 a0 b0 t0 c0
      · rw [zstH'_fl, zfl_sf]
        have := zstH'_C (k := k) (st := st) (cd := cd) (sh := sh) hC k0 k1 (by rw [zmid_j (by decide)]; exact a0) (by rw [zmid_j (by decide)]; exact b0) t0 c0
        rw [show zmid s0 s 12 = s 12 from zmid_j (by decide), show zmid s0 s 13 = s 13 from zmid_j (by decide)] at this
        have em : zstS' (zmid s0 s) k st cd sh = zmid s0 (zstS' s k st cd sh) := by
          have o2 : ∀ u, zoth2 s0 (zstS' s k st cd sh) u = zoth2 s0 s u := fun u => by
            unfold zoth2
            rw [e12, e13]
            by_cases c : u = k
            · rw [if_pos c, if_pos c, c, chg.1, chg.2]
            · rw [if_neg c, if_neg c]
          funext j a
          by_cases c : j = 47
          · subst c
            rw [zmid_47, o2]
            exact zmid_47
          · rw [zmid_j c]
            unfold zstS' zup
            rw [zmid_j c]
        rwa [em] at this
      · exact ((((((((zKp_i (fun z => z (by unfold zpc1; decide))).tr (zau_k (fun z => z (by unfold zpc1; decide)))).tr (zau_k (fun z => z (by unfold zpc1; decide)))).tr (zau_k (fun z => z (by unfold zpc1; decide)))).tr (zau_k (fun z => z (by unfold zpc1; decide)))).tr (zKp_r (fun z => z (by unfold zpc1; decide)))).tr (zKp_r (fun z => z (by unfold zpc1; decide)))).tr (zKp_i (fun z => z (by unfold zpc1; decide))))
    · have chg' : st ≠ s 12 k ∨ cd ≠ s 13 k := by
        by_cases c1 : st = s 12 k
        · exact Or.inr fun z => chg ⟨c1, z⟩
        · exact Or.inl c1
      have C1 := C1 chg'
      refine ⟨zstH' (zemH (zsi h 10 k.toNat 3 (1 : Int32)) k) k (s 12 k) (s 13 k) st cd sh, ?_, ⟨?_, flag _ (fun u _ _ => zstH'_f)⟩, ?_, rfl, rfl⟩
      · have h24 : zm29_13 (some (10, k.toNat)) (zrf 0 st) (zrf 0 cd) (zE sh) h = zm29_24 (some (10, k.toNat)) (zrf 0 st) (zrf 0 cd) (zE sh) (zsi h 10 k.toNat 3 (1 : Int32)) := by
          rw [zm29_13, zo_10, zlet_s]
          by_cases c1 : st = s 12 k
          · rw [if_pos (show zrf 0 st = zr (zsi h 10 k.toNat 3 (1 : Int32)) 10 k.toNat 0 from eS.mpr c1), if_neg (show ¬ zrf 0 cd = zr (zsi h 10 k.toNat 3 (1 : Int32)) 10 k.toNat 1 from fun z => chg ⟨c1, eC.mp z⟩)]
          · rw [if_neg (show ¬ zrf 0 st = zr (zsi h 10 k.toNat 3 (1 : Int32)) 10 k.toNat 0 from fun z => c1 (eS.mp z))]
        obtain ⟨⟨cdd, m1, m2⟩, m3⟩ := hC.2.2.2.2.2.2.2.2.2.2.2.2.1
        obtain ⟨-, -, -, -, -, -, k7, k8, -⟩ := m2 (2 * k + 1) (by omega) (by omega)
        obtain ⟨-, -, -, -, -, -, l7, l8, -⟩ := m2 (2 * k) (by omega) (by omega)
        rw [zsk_1, zdv_1, zbi_e (by omega), if_pos (by omega), zdv_1] at k7
        rw [zbi_e (by omega), if_pos (by omega), zdv_1] at k8
        rw [zsk_0, zdv_0, zbi_e (by omega), if_neg (by omega), zdv_0] at l7
        rw [zbi_e (by omega), if_neg (by omega), zdv_0] at l8
        have k7 : zr h 7 k.toNat 3 = some (31, (2 * k).toNat) := k7
        have k8 : zln h 31 (2 * k).toNat = 17 := k8
        have l7 : zr h 8 k.toNat 3 = some (31, (2 * k + 1).toNat) := l7
        have l8 : zln h 31 (2 * k + 1).toNat = 17 := l8
        rw [hgo, h24, zm29_24, zo_10, zlet_s, show zr (zsd (zsi h 10 k.toNat 3 (1 : Int32)) 10 k.toNat 4 (4607182418800017408 : UInt64)) 10 k.toNat 5 = some (7, k.toNat) from q5, zo_7]
        rw [zem_8 (h := zsd (zsi h 10 k.toNat 3 (1 : Int32)) 10 k.toNat 4 (4607182418800017408 : UInt64)) (B0 := (2 * k).toNat) (fun f => rfl) (by decide) k7 k8, zb_s]
        rw [show zr (zemI 7 k.toNat (2 * k).toNat 17 (zsd (zsi h 10 k.toNat 3 (1 : Int32)) 10 k.toNat 4 (4607182418800017408 : UInt64))) 10 k.toNat 6 = some (8, k.toNat) from q6, zo_8]
        rw [zem_8 (h := zemI 7 k.toNat (2 * k).toNat 17 (zsd (zsi h 10 k.toNat 3 (1 : Int32)) 10 k.toNat 4 (4607182418800017408 : UInt64))) (B0 := (2 * k + 1).toNat) (fun f => rfl) (by decide) l7 l8, zb_s]
        exact zc29_33 (hh := zemH (zsi h 10 k.toNat 3 (1 : Int32)) k) q0 q1 a0 b0 t0 c0
      · rw [zstH'_fl, zemH_fl, zfl_sf]
        have := zstH'_C (k := k) (st := st) (cd := cd) (sh := sh) (zemH_C hC k0 k1) k0 k1 (by show -1 ≤ zmid s0 s 12 k; rw [zmid_j (by decide)]; exact a0) (by show -1 ≤ zmid s0 s 13 k; rw [zmid_j (by decide)]; exact b0) t0 c0
        rw [show zemS (zmid s0 s) k 12 = s 12 from (show zemS (zmid s0 s) k 12 = zmid s0 s 12 from funext fun _ => rfl).trans (zmid_j (by decide)), show zemS (zmid s0 s) k 13 = s 13 from (show zemS (zmid s0 s) k 13 = zmid s0 s 13 from funext fun _ => rfl).trans (zmid_j (by decide))] at this
        have em : zstS' (zemS (zmid s0 s) k) k st cd sh = zmid s0 (zstS' s k st cd sh) := by
          funext j a
          by_cases c : j = 47
          · subst c
            rw [zmid_47]
            show zemS (zmid s0 s) k 47 a = zitp _ 0 (s 47 a)
            rw [zemS_47]
            by_cases d : a / 2 = k
            · rw [if_pos d, d, zitp_t (othk.mpr C1)]
            · rw [if_neg d, oth _ d, zmid_47]
          · rw [zmid_j c]
            unfold zstS' zup zemS zup
            rw [if_neg (show ¬ (j = 47 ∧ a = 2 * k + 1) from fun z => c z.1), if_neg (show ¬ (j = 47 ∧ a = 2 * k) from fun z => c z.1), zmid_j c]
        rwa [em] at this
      · exact (((((((((((zKp_i (fun z => z (by unfold zpc1; decide))).tr (zKp_d (fun z => z (by unfold zpc1; decide)))).tr (zemI_k (fun z => z (by unfold zpc1; decide)) (fun z => z (by unfold zpc1; decide)))).tr (zemI_k (fun z => z (by unfold zpc1; decide)) (fun z => z (by unfold zpc1; decide)))).tr (zau_k (fun z => z (by unfold zpc1; decide)))).tr (zau_k (fun z => z (by unfold zpc1; decide)))).tr (zau_k (fun z => z (by unfold zpc1; decide)))).tr (zau_k (fun z => z (by unfold zpc1; decide)))).tr (zKp_r (fun z => z (by unfold zpc1; decide)))).tr (zKp_r (fun z => z (by unfold zpc1; decide)))).tr (zKp_i (fun z => z (by unfold zpc1; decide))))

