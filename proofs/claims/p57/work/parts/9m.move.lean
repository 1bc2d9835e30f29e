set_option maxRecDepth 16384
/-! A run moves on: both sides. -/
theorem zClM_C {h : zH} {s0 t : zS} (hC : zClM h s0 t) (e12 : s0 12 = t 12) (e13 : s0 13 = t 13) (e14 : s0 14 = t 14) : zCl h t := by
  have n2 : ∀ k, ¬ zoth2 s0 t k := fun k z => by
    unfold zoth2 at z
    rw [e12, e13] at z
    exact z.elim (fun z => z rfl) (fun z => z rfl)
  have em : zmid s0 t = t := by
    funext j a
    by_cases c : j = 47
    · subst c
      rw [zmid_47, zitp_f (n2 _)]
    · rw [zmid_j c]
  obtain ⟨p1, p2⟩ := hC
  rw [em] at p1
  refine zfl_D p1 fun k k0 k1 => ?_
  rw [p2 k k0 k1, zcn1_f (fun z => z.elim (n2 k) fun z => z (by rw [e14]))]
  exact zE_0.symm
/-- dead, by a turn -/
theorem zw_turn {h : zH} {s : zS} (hC : zCl h s) : zCl (zsi h 12 0 13 (zE 1)) (zup (zup s 43 0 1) 44 0 0) := by
  obtain ⟨c1, c2, c3, c4, c5, c6, c7, c8, c9, c10, c11, c12, c13, c14⟩ := hC
  obtain ⟨b1, b2, b3, b4, b5, b6, b7⟩ := c2
  refine ⟨c1, ⟨(zi_j (by decide)).trans b1, zi_s.trans ?_, (zi_j (by decide)).trans b3, (zi_j (by decide)).trans b4, (zi_j (by decide)).trans b5, (zi_j (by decide)).trans b6, fun z => ?_⟩, c3, c4, c5, c6, c7, c8, c9, c10, c11, c12, zCM_w c13 (zKp_i (by decide)) rfl rfl rfl rfl, c14⟩
  · rfl
  · have z : (1 : Int) = 0 := z
    omega
def zmvS (s : zS) (r : Int) : zS := zup (zup (zup s 34 r (s 34 r + 1)) 35 r (s 1 0)) 37 r 0
def zmvT (s : zS) (r : Int) : zS := if s 34 r + 1 = s 26 (s 32 r) then zen (zmvS s r) r (s 31 r) 2 (s 30 0).toNat else zmvS s r
theorem zmv_W {s : zS} {r w : Int} (hW : zWf s) (r0 : 0 ≤ r) (r1 : r < s 30 0) (h33 : s 33 r = 0) (hw : (w = 0 ∧ s 34 r + 1 < s 26 (s 32 r)) ∨ w = 2) : zWf (zup (zmvS s r) 33 r w) := by
  obtain ⟨wA, wK, wC, wD, wP, wR, wZ, wT, wG, wE, wM, wX⟩ := hW
  have h1 := wD.1
  have hr := wR.2.2 r r0 r1
  have h34 := hr.2.2.2.2.1 (by omega)
  have e33 : ∀ u, zup (zmvS s r) 33 r w 33 u = if u = r then w else s 33 u := fun u => zif_u
  have e34 : ∀ u, zup (zmvS s r) 33 r w 34 u = if u = r then s 34 r + 1 else s 34 u := fun u => by
    show zup s 34 r (s 34 r + 1) 34 u = _
    exact zif_u
  have e35 : ∀ u, zup (zmvS s r) 33 r w 35 u = if u = r then s 1 0 else s 35 u := fun u => by
    show zup (zup s 34 r (s 34 r + 1)) 35 r (s 1 0) 35 u = _
    exact zif_u
  have e37 : ∀ u, zup (zmvS s r) 33 r w 37 u = if u = r then 0 else s 37 u := fun u => by
    show zup (zup (zup s 34 r (s 34 r + 1)) 35 r (s 1 0)) 37 r 0 37 u = _
    exact zif_u
  refine ⟨wA, wK, wC, wD, wP, ⟨wR.1, wR.2.1, fun u u0 u1 => ?_⟩, wZ, wT, wG, wE, wM, wX.1, wX.2.1, wX.2.2.1, wX.2.2.2.1, wX.2.2.2.2.1, fun u u0 u1 => ?_, wX.2.2.2.2.2.2.1, fun u u' u0 u1 u2 u3 => ?_, wX.2.2.2.2.2.2.2.2⟩
  · obtain ⟨a1, a2, a3, a4, a5, a6, a7, a8, a9⟩ := wR.2.2 u u0 u1
    rw [e33, e34, e35, e37]
    by_cases d : u = r
    · rw [if_pos d, if_pos d, if_pos d, if_pos d]
      refine ⟨a1, a2, by omega, ⟨by omega, ?_⟩, fun z => ?_, ⟨by omega, Int.le_refl _⟩, a7, by omega, a9⟩
      · show s 34 r + 1 ≤ s 26 (s 32 u)
        rw [d]
        omega
      · show s 34 r + 1 < s 26 (s 32 u)
        rw [d]
        omega
    · rw [if_neg d, if_neg d, if_neg d, if_neg d]
      exact ⟨a1, a2, a3, a4, a5, a6, a7, a8, a9⟩
  · have u0 : s 30 0 ≤ u := u0
    have ne : ¬ u = r := by omega
    obtain ⟨a1, a2, a3, a4, a5⟩ := wX.2.2.2.2.2.1 u u0 u1
    rw [e33, e34, e37, if_neg ne, if_neg ne, if_neg ne]
    exact ⟨a1, a2, a3, a4, a5⟩
  · have q := wX.2.2.2.2.2.2.2.1 u u' u0 u1 u2 u3
    rw [e33, e33]
    by_cases d : u = r
    · have ne : ¬ u' = r := by omega
      rw [if_pos d, if_neg ne]
      rw [d] at q
      omega
    · rw [if_neg d]
      by_cases d' : u' = r
      · rw [if_pos d']
        rw [d'] at q
        omega
      · rw [if_neg d']
        exact q
theorem zmvT_W {s : zS} {r : Int} (hW : zWf s) (r0 : 0 ≤ r) (r1 : r < s 30 0) (h33 : s 33 r = 0) : zWf (zmvT s r) := by
  have hr := hW.2.2.2.2.2.1.2.2 r r0 r1
  have h20 := hW.2.2.2.2.2.1.1
  have h34 := hr.2.2.2.2.1 (by omega)
  unfold zmvT
  by_cases c : s 34 r + 1 = s 26 (s 32 r)
  · rw [if_pos c]
    exact zen_W' (zmv_W hW r0 r1 h33 (Or.inr rfl)) _ (by show ((s 30 0).toNat : Int) ≤ s 30 0; omega)
  · rw [if_neg c]
    have := zmv_W (w := 0) hW r0 r1 h33 (Or.inl ⟨rfl, by omega⟩)
    rwa [zup_id (show zmvS s r 33 r = 0 from h33)] at this
theorem zmvT_j {s : zS} {r : Int} {j : Nat} (h : j ≠ 33) (h1 : j ≠ 34) (h2 : j ≠ 35) (h3 : j ≠ 37) : zmvT s r j = s j := by
  have e : zmvS s r j = s j := by
    funext u
    exact (zup_j h3).trans ((zup_j h2).trans (zup_j h1))
  unfold zmvT
  by_cases c : s 34 r + 1 = s 26 (s 32 r)
  · rw [if_pos c, zen_j h h1 h2 h3]
    exact e
  · rw [if_neg c]
    exact e
theorem zc80 {h : zH} {s : zS} {r : Int} (hC : zCl h s) (hW : zWf s) (r0 : 0 ≤ r) (r1 : r < s 30 0) (h33 : s 33 r = 0) : ∃ h', zm80 (some (12, 0)) (some (5, r.toNat)) h = some (.inl (), h') ∧ zCl h' (zmvT s r) ∧ zfrC h h' := by
  have hr := hW.2.2.2.2.2.1.2.2 r r0 r1
  have h34 := hr.2.2.2.2.1 (by omega)
  have w26 := hW.2.2.2.2.1.2.1 (s 32 r) hr.2.1.1 hr.2.1.2
  have C1 := zw_5_3 (x := s 34 r + 1) hC r0 r1
  have C2 := zw_5_4 (x := s 1 0) C1 r0 r1
  have C3 : zCl _ (zmvS s r) := zw_5_8 (x := 0) C2 r0 r1
  have F : zfrC h (zsi (zsi (zsi h 5 r.toNat 3 (zE (s 34 r + 1))) 5 r.toNat 4 (zE (s 1 0))) 5 r.toNat 8 (zE 0)) := (zfrC_i (by unfold zpc1; decide)).tr ((zfrC_i (by unfold zpc1; decide)).tr (zfrC_i (by unfold zpc1; decide)))
  have cs : zCs h s := hC.2.1
  have cR : zCR h s := hC.2.2.2.2.1
  have cR3 : zCR _ (zmvS s r) := C3.2.2.2.2.1
  have cP3 : zCP _ (zmvS s r) := C3.2.2.2.1
  have g1 := zCrP cR3 r0 r1
  have g2 := zCr3_ cR3 r0 r1
  have g3 := zCp3 cP3 hr.2.1.1 hr.2.1.2
  have e32 : zmvS s r 32 r = s 32 r := rfl
  have e34 : zmvS s r 34 r = s 34 r + 1 := (zup_j (by decide)).trans ((zup_j (by decide)).trans zup_s)
  have e26 : zmvS s r 26 (s 32 r) = s 26 (s 32 r) := rfl
  rw [e32] at g1
  rw [e34] at g2
  rw [e26] at g3
  have go : zm80 (some (12, 0)) (some (5, r.toNat)) h = if zE (s 34 r + 1) < zE (s 26 (s 32 r)) then some (.inl (), zsi (zsi (zsi h 5 r.toNat 3 (zE (s 34 r + 1))) 5 r.toNat 4 (zE (s 1 0))) 5 r.toNat 8 (zE 0)) else zb (zm59 (some (12, 0)) (some (5, r.toNat)) (zE 2) (zsi (zsi (zsi h 5 r.toNat 3 (zE (s 34 r + 1))) 5 r.toNat 4 (zE (s 1 0))) 5 r.toNat 8 (zE 0))) fun _ h35 => some (.inl (), h35) := by
    rw [zm80, zo_5, zo_12, zCr3_ cR r0 r1, zE_1, zE_add, zCs11 cs, zm11, zo_5, zlet_s, zlet_s, zlet_s, zb_s, zE_0, g1, zo_4, g2, g3, zE_2]
  unfold zmvT
  by_cases c : s 34 r + 1 = s 26 (s 32 r)
  · have W0 := zmv_W (w := 2) hW r0 r1 h33 (Or.inr rfl)
    obtain ⟨h', b1, b2, b3⟩ := zc59' (zClM_0 C3 rfl rfl rfl) W0 r0 r1 (a := s 31 r) rfl
    have eT : zen (zmvS s r) r (s 31 r) 2 (zmvS s r 30 0).toNat = zen (zmvS s r) r (s 31 r) 2 (s 30 0).toNat := rfl
    rw [eT] at b2
    have xj : ∀ j, j ≠ 33 → j ≠ 34 → j ≠ 35 → j ≠ 37 → zmvS s r j = zen (zmvS s r) r (s 31 r) 2 (s 30 0).toNat j := fun j a b c d => (zen_j a b c d _).symm
    refine ⟨h', ?_, by rw [if_pos c]; exact zClM_C b2 (xj 12 (by decide) (by decide) (by decide) (by decide)) (xj 13 (by decide) (by decide) (by decide) (by decide)) (xj 14 (by decide) (by decide) (by decide) (by decide)), F.tr b3⟩
    rw [go, if_neg (by rw [zE_lt (by omega) (by omega) (by omega) (by omega)]; omega), b1, zb_s]
  · refine ⟨_, ?_, by rw [if_neg c]; exact C3, F⟩
    rw [go, if_pos (by rw [zE_lt (by omega) (by omega) (by omega) (by omega)]; omega)]
