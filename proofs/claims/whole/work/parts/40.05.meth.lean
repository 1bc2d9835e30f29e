set_option maxRecDepth 16384
/-! The methods read back (printed by wip/whole/gen/dec.py). -/
def zm205_40 (x0 : zq) (x1 : Int32) (x2 : Int32) (x3 : Int32) (s0 : zq) (s1 : Int32) (h : zH) : zRs Unit :=
  zob 12 s0 fun p21 i22 =>
  zlet (zsi h p21 i22 0 s1) fun h25 =>
  zob 12 x0 fun p27 i28 =>
  if (zi h25 p27 i28 0) = 0 then
    zar 1 (zr h25 p27 i28 22) x1 h25 fun p32 i33 j34 =>
    zlet (zsi h25 p32 i33 j34 x2) fun h39 =>
    zar 1 (zr h39 p27 i28 23) x1 h39 fun p41 i42 j43 =>
    zlet (zsi h39 p41 i42 j43 x3) fun h48 =>
    zar 1 (zr h48 p27 i28 24) x1 h48 fun p50 i51 j52 =>
    zlet (zsi h48 p50 i51 j52 (0 : Int32)) fun h57 =>
    some (.inl (), h57)
  else
    some (.inl (), h25)
theorem zmS205_40 : ∀ (x0 : zq) (x1 : Int32) (x2 : Int32) (x3 : Int32) (s0 : zq) (s1 : Int32) (h : zH) (r : Unit ⊕ Nat) (h' : zH), zm205_40 x0 x1 x2 x3 s0 s1 h = some (r, h') → zAt 205 40 [some (zrv x0), some (zI x1), some (zI x2), some (zI x3)] [zI s1, zrv s0] h (zoU r) h' := by
  intro x0 x1 x2 x3 s0 s1 h r h' H
  unfold zm205_40 at H
  obtain ⟨p21, i22, e23, c24, H⟩ := zob_e H
  obtain ⟨h25, e26, H⟩ := zlet_e H
  refine zA_pf0 rfl rfl e23 c24 e26 ?_
  refine zA_aldn rfl rfl rfl ?_
  obtain ⟨p27, i28, e29, c30, H⟩ := zob_e H
  refine zA_gf0 rfl rfl (Or.inl rfl) e29 c30 ?_
  rcases zite_e H with ⟨c31, H⟩ | ⟨c31, H⟩
  · refine zA_brF' (c := (zi h25 p27 i28 0) = 0) rfl rfl rfl c31 ?_
    refine zA_aldn rfl rfl rfl ?_
    refine zA_gf3 rfl rfl e29 c30 ?_
    refine zA_ldn rfl rfl rfl ?_
    refine zA_ldn rfl rfl rfl ?_
    obtain ⟨p32, i33, j34, e35, c36, c37, e38, H⟩ := zar_e H
    obtain ⟨h39, e40, H⟩ := zlet_e H
    refine zA_ias rfl rfl e35 c36 c37 e38 e40 ?_
    refine zA_aldn rfl rfl rfl ?_
    refine zA_gf3 rfl rfl e29 c30 ?_
    refine zA_ldn rfl rfl rfl ?_
    refine zA_ldn rfl rfl rfl ?_
    obtain ⟨p41, i42, j43, e44, c45, c46, e47, H⟩ := zar_e H
    obtain ⟨h48, e49, H⟩ := zlet_e H
    refine zA_ias rfl rfl e44 c45 c46 e47 e49 ?_
    refine zA_aldn rfl rfl rfl ?_
    refine zA_gf3 rfl rfl e29 c30 ?_
    refine zA_ldn rfl rfl rfl ?_
    refine zA_push rfl rfl zkk7 ?_
    obtain ⟨p50, i51, j52, e53, c54, c55, e56, H⟩ := zar_e H
    obtain ⟨h57, e58, H⟩ := zlet_e H
    refine zA_ias rfl rfl e53 c54 c55 e56 e58 ?_
    refine zA_tr (L := [none, none, none, none]) rfl rfl ?_
    cases H
    exact zA_ret rfl rfl
  · refine zA_brT' (c := (zi h25 p27 i28 0) = 0) rfl rfl rfl c31 ?_
    refine zA_tr (L := [none, none, none, none]) rfl rfl ?_
    cases H
    exact zA_ret rfl rfl
-- 205: ReleaseHouseModel.migrate(III)V
def zm205 (x0 : zq) (x1 : Int32) (x2 : Int32) (x3 : Int32) (h : zH) : zRs Unit :=
  zob 12 x0 fun p21 i22 =>
  zb (zm202 x0 x1 x2 h) fun x26 h25 =>
  if x26 = 0 then
    zm205_40 x0 x1 x2 x3 x0 (1 : Int32) h25
  else
    zb (zm139 x3 (0 : Int32) (7 : Int32) h25) fun x29 h28 =>
    if x29 = 0 then
      zm205_40 x0 x1 x2 x3 x0 (1 : Int32) h28
    else
      if x2 = x3 then
        zm205_40 x0 x1 x2 x3 x0 (1 : Int32) h28
      else
        zri (zr h28 p21 i22 23) x1 h28 fun v39 =>
        if v39 = (-1 : Int32) then
          zri (zr h28 p21 i22 21) x1 h28 fun v49 =>
          if ((v49 >>> (x3 &&& 31)) &&& (1 : Int32)) = 0 then
            zm205_40 x0 x1 x2 x3 x0 (2 : Int32) h28
          else
            zb (zm203 x0 x1 x3 (0 : Int32) h28) fun x53 h52 =>
            if x53 = 0 then
              zm205_40 x0 x1 x2 x3 x0 (0 : Int32) h52
            else
              zm205_40 x0 x1 x2 x3 x0 (2 : Int32) h52
        else
          zm205_40 x0 x1 x2 x3 x0 (2 : Int32) h28
theorem zmS205 {x0 : zq} {x1 : Int32} {x2 : Int32} {x3 : Int32} {h : zH} {r : Unit ⊕ Nat} {h' : zH} (H : zm205 x0 x1 x2 x3 h = some (r, h')) : zAt 205 0 [some (zrv x0), some (zI x1), some (zI x2), some (zI x3)] [] h (zoU r) h' := by
  unfold zm205 at H
  refine zA_aldn rfl rfl rfl ?_
  refine zA_aldn rfl rfl rfl ?_
  refine zA_ldn rfl rfl rfl ?_
  refine zA_ldn rfl rfl rfl ?_
  obtain ⟨p21, i22, e23, c24, H⟩ := zob_e H
  rcases zb_e H with ⟨x26, h25, C, H⟩ | ⟨E, h25, C, H⟩
  · refine zA_callV (as := [zrv x0, zI x1, zI x2]) (st' := [zrv x0]) rfl rfl rfl (zrcv_Q e23 c24) rfl (zmE202 _ _ _) rfl (zmS202 C) ?_
    rcases zite_e H with ⟨c27, H⟩ | ⟨c27, H⟩
    · refine zA_brT (c := x26 = 0) rfl rfl rfl c27 ?_
      refine zA_push rfl rfl zkk5 ?_
      refine zA_go rfl rfl ?_
      exact zA_tr (L := [some (zrv x0), some (zI x1), some (zI x2), some (zI x3)]) rfl rfl (zmS205_40 _ _ _ _ _ _ _ _ _ H)
    · refine zA_brF (c := x26 = 0) rfl rfl rfl c27 ?_
      refine zA_ldn rfl rfl rfl ?_
      refine zA_push rfl rfl zkk7 ?_
      refine zA_push rfl rfl zkk22 ?_
      rcases zb_e H with ⟨x29, h28, C, H⟩ | ⟨E, h28, C, H⟩
      · refine zA_callV (as := [zI x3, zI (0 : Int32), zI (7 : Int32)]) (st' := [zrv x0]) rfl rfl rfl rfl rfl (zmE139 _ _ _) rfl (zmS139 C) ?_
        rcases zite_e H with ⟨c30, H⟩ | ⟨c30, H⟩
        · refine zA_brT (c := x29 = 0) rfl rfl rfl c30 ?_
          refine zA_push rfl rfl zkk5 ?_
          refine zA_go rfl rfl ?_
          exact zA_tr (L := [some (zrv x0), some (zI x1), some (zI x2), some (zI x3)]) rfl rfl (zmS205_40 _ _ _ _ _ _ _ _ _ H)
        · refine zA_brF (c := x29 = 0) rfl rfl rfl c30 ?_
          refine zA_ldn rfl rfl rfl ?_
          refine zA_ldn rfl rfl rfl ?_
          rcases zite_e H with ⟨c31, H⟩ | ⟨c31, H⟩
          · refine zA_brF' (c := x2 = x3) rfl rfl rfl c31 ?_
            refine zA_push rfl rfl zkk5 ?_
            refine zA_go rfl rfl ?_
            exact zA_tr (L := [some (zrv x0), some (zI x1), some (zI x2), some (zI x3)]) rfl rfl (zmS205_40 _ _ _ _ _ _ _ _ _ H)
          · refine zA_brT' (c := x2 = x3) rfl rfl rfl c31 ?_
            refine zA_aldn rfl rfl rfl ?_
            refine zA_gf3 rfl rfl e23 c24 ?_
            refine zA_ldn rfl rfl rfl ?_
            obtain ⟨p32, i33, j34, v39, e35, c36, c37, e38, e40, H⟩ := zri_e H
            refine zA_ial rfl rfl e35 c36 c37 e38 e40 ?_
            refine zA_push rfl rfl zkk6 ?_
            rcases zite_e H with ⟨c41, H⟩ | ⟨c41, H⟩
            · refine zA_brF' (c := v39 = (-1 : Int32)) rfl rfl rfl c41 ?_
              refine zA_aldn rfl rfl rfl ?_
              refine zA_gf3 rfl rfl e23 c24 ?_
              refine zA_ldn rfl rfl rfl ?_
              obtain ⟨p42, i43, j44, v49, e45, c46, c47, e48, e50, H⟩ := zri_e H
              refine zA_ial rfl rfl e45 c46 c47 e48 e50 ?_
              refine zA_ldn rfl rfl rfl ?_
              refine zA_st (st' := [zI (v49 >>> (x3 &&& 31)), zrv x0]) rfl rfl rfl rfl ?_
              refine zA_push rfl rfl zkk5 ?_
              refine zA_st (st' := [zI ((v49 >>> (x3 &&& 31)) &&& (1 : Int32)), zrv x0]) rfl rfl rfl rfl ?_
              rcases zite_e H with ⟨c51, H⟩ | ⟨c51, H⟩
              · refine zA_brT (c := ((v49 >>> (x3 &&& 31)) &&& (1 : Int32)) = 0) rfl rfl rfl c51 ?_
                refine zA_push rfl rfl zkk23 ?_
                refine zA_go rfl rfl ?_
                exact zA_tr (L := [some (zrv x0), some (zI x1), some (zI x2), some (zI x3)]) rfl rfl (zmS205_40 _ _ _ _ _ _ _ _ _ H)
              · refine zA_brF (c := ((v49 >>> (x3 &&& 31)) &&& (1 : Int32)) = 0) rfl rfl rfl c51 ?_
                refine zA_aldn rfl rfl rfl ?_
                refine zA_ldn rfl rfl rfl ?_
                refine zA_ldn rfl rfl rfl ?_
                refine zA_push rfl rfl zkk7 ?_
                rcases zb_e H with ⟨x53, h52, C, H⟩ | ⟨E, h52, C, H⟩
                · refine zA_callV (as := [zrv x0, zI x1, zI x3, zI (0 : Int32)]) (st' := [zrv x0]) rfl rfl rfl (zrcv_Q e23 c24) rfl (zmE203 _ _ _ _) rfl (zmS203 C) ?_
                  rcases zite_e H with ⟨c54, H⟩ | ⟨c54, H⟩
                  · refine zA_brT (c := x53 = 0) rfl rfl rfl c54 ?_
                    refine zA_push rfl rfl zkk7 ?_
                    exact zA_tr (L := [some (zrv x0), some (zI x1), some (zI x2), some (zI x3)]) rfl rfl (zmS205_40 _ _ _ _ _ _ _ _ _ H)
                  · refine zA_brF (c := x53 = 0) rfl rfl rfl c54 ?_
                    refine zA_push rfl rfl zkk23 ?_
                    refine zA_go rfl rfl ?_
                    exact zA_tr (L := [some (zrv x0), some (zI x1), some (zI x2), some (zI x3)]) rfl rfl (zmS205_40 _ _ _ _ _ _ _ _ _ H)
                · cases H
                  exact zA_callX (as := [zrv x0, zI x1, zI x3, zI (0 : Int32)]) (st' := [zrv x0]) rfl rfl (zrcv_Q e23 c24) rfl (zmE203 _ _ _ _) rfl rfl rfl (zmS203 C)
            · refine zA_brT' (c := v39 = (-1 : Int32)) rfl rfl rfl c41 ?_
              refine zA_push rfl rfl zkk23 ?_
              refine zA_go rfl rfl ?_
              exact zA_tr (L := [some (zrv x0), some (zI x1), some (zI x2), some (zI x3)]) rfl rfl (zmS205_40 _ _ _ _ _ _ _ _ _ H)
      · cases H
        exact zA_callX (as := [zI x3, zI (0 : Int32), zI (7 : Int32)]) (st' := [zrv x0]) rfl rfl rfl rfl (zmE139 _ _ _) rfl rfl rfl (zmS139 C)
  · cases H
    exact zA_callX (as := [zrv x0, zI x1, zI x2]) (st' := [zrv x0]) rfl rfl (zrcv_Q e23 c24) rfl (zmE202 _ _ _) rfl rfl rfl (zmS202 C)
theorem zmE205 (x0 : zq) (x1 : Int32) (x2 : Int32) (x3 : Int32) : zpad (zPr.2.1 205).1 (zil [zrv x0, zI x1, zI x2, zI x3]) = [some (zrv x0), some (zI x1), some (zI x2), some (zI x3)] := by
  simp only [zil_A, zil_I, zil_F, zil_D, zil_N]
  rfl
-- 97: ReleaseHouse.halt(I)I
def zm97 (x0 : zq) (x1 : Int32) (h : zH) : zRs Int32 :=
  zb (zm131 x1 (0 : Int32) (3 : Int32) h) fun _ h21 =>
  zob 11 x0 fun p22 i23 =>
  zra (zr h21 p22 i23 6) x1 h21 fun v33 =>
  zob 8 v33 fun p35 i36 =>
  if (zi h21 p35 i36 5) = (-1 : Int32) then
    some (.inr 1, zro h21 1 6)
  else
    zlet (zsi h21 p35 i36 4 (-1 : Int32)) fun h40 =>
    zlet (zsi h40 p35 i36 5 (-1 : Int32)) fun h42 =>
    some (.inl (zi h42 p35 i36 6), h42)
theorem zmS97 {x0 : zq} {x1 : Int32} {h : zH} {r : Int32 ⊕ Nat} {h' : zH} (H : zm97 x0 x1 h = some (r, h')) : zAt 97 0 [some (zrv x0), some (zI x1), none] [] h (zoI r) h' := by
  unfold zm97 at H
  refine zA_ldn rfl rfl rfl ?_
  refine zA_push rfl rfl zkk7 ?_
  refine zA_push rfl rfl zkk3 ?_
  rcases zb_e H with ⟨u44, h21, C, H⟩ | ⟨E, h21, C, H⟩
  · refine zA_callU (as := [zI x1, zI (0 : Int32), zI (3 : Int32)]) (st' := []) rfl rfl rfl rfl rfl (zmE131 _ _ _) rfl (zmS131 C) ?_
    refine zA_aldn rfl rfl rfl ?_
    obtain ⟨p22, i23, e24, c25, H⟩ := zob_e H
    refine zA_gf3 rfl rfl e24 c25 ?_
    refine zA_ldn rfl rfl rfl ?_
    obtain ⟨p26, i27, j28, v33, e29, c30, c31, e32, e34, H⟩ := zra_e H
    refine zA_aal rfl rfl e29 c30 c31 e32 e34 ?_
    refine zA_astn2 rfl rfl rfl (zset1 (L' := [some (zrv x0), some (zI x1), some (zrv v33)]) (zcat_rv _) rfl (zpcV rfl rfl)) ?_
    refine zA_aldn rfl rfl rfl ?_
    obtain ⟨p35, i36, e37, c38, H⟩ := zob_e H
    refine zA_gf0 rfl rfl (Or.inl rfl) e37 c38 ?_
    refine zA_push rfl rfl zkk6 ?_
    rcases zite_e H with ⟨c39, H⟩ | ⟨c39, H⟩
    · refine zA_brF' (c := (zi h21 p35 i36 5) = (-1 : Int32)) rfl rfl rfl c39 ?_
      cases H
      exact zA_thr rfl rfl
    · refine zA_brT' (c := (zi h21 p35 i36 5) = (-1 : Int32)) rfl rfl rfl c39 ?_
      refine zA_tr (L := [none, none, some (zrv v33)]) rfl rfl ?_
      refine zA_aldn rfl rfl rfl ?_
      refine zA_push rfl rfl zkk6 ?_
      obtain ⟨h40, e41, H⟩ := zlet_e H
      refine zA_pf0 rfl rfl e37 c38 e41 ?_
      refine zA_aldn rfl rfl rfl ?_
      refine zA_push rfl rfl zkk6 ?_
      obtain ⟨h42, e43, H⟩ := zlet_e H
      refine zA_pf0 rfl rfl e37 c38 e43 ?_
      refine zA_aldn rfl rfl rfl ?_
      refine zA_gf0 rfl rfl (Or.inl rfl) e37 c38 ?_
      cases H
      exact zA_ret rfl rfl
  · cases H
    exact zA_callX (as := [zI x1, zI (0 : Int32), zI (3 : Int32)]) (st' := []) rfl rfl rfl rfl (zmE131 _ _ _) rfl rfl rfl (zmS131 C)
theorem zmE97 (x0 : zq) (x1 : Int32) : zpad (zPr.2.1 97).1 (zil [zrv x0, zI x1]) = [some (zrv x0), some (zI x1), none] := by
  simp only [zil_A, zil_I, zil_F, zil_D, zil_N]
  rfl
-- 266: ReleaseHouseLaw.halt(LReleaseHouse;I[J)I
def zm266 (x0 : zq) (x1 : Int32) (x2 : zq) (h : zH) : zRs Int32 :=
  zob 11 x0 fun p21 i22 =>
  zbH [(0, 7, 0, 1), (0, 7, 1, 2)] 4 (zm97 x0 x1 h) fun x26 h25 =>
  zar 3 x2 (0 : Int32) h25 fun p27 i28 j29 =>
  zlet (zsl h25 p27 i28 j29 (x26.toInt64)) fun h34 =>
  some (.inl (0 : Int32), h34)
theorem zmS266 {x0 : zq} {x1 : Int32} {x2 : zq} {h : zH} {r : Int32 ⊕ Nat} {h' : zH} (H : zm266 x0 x1 x2 h = some (r, h')) : zAt 266 0 [some (zrv x0), some (zI x1), some (zrv x2), none] [] h (zoI r) h' := by
  unfold zm266 at H
  refine zA_aldn rfl rfl rfl ?_
  refine zA_push rfl rfl zkk7 ?_
  refine zA_aldn rfl rfl rfl ?_
  refine zA_ldn rfl rfl rfl ?_
  obtain ⟨p21, i22, e23, c24, H⟩ := zob_e H
  rcases zbH_e H with ⟨x26, h25, C, H⟩ | ⟨E, h25, c36, C, hc, H⟩
  · refine zA_callV (as := [zrv x0, zI x1]) (st' := [zI (0 : Int32), zrv x2]) rfl rfl rfl (zrcv_Q e23 c24) rfl (zmE97 _ _) rfl (zmS97 C) ?_
    refine zA_st (st' := [zJ (x26.toInt64), zI (0 : Int32), zrv x2]) rfl rfl rfl rfl ?_
    obtain ⟨p27, i28, j29, e30, c31, c32, e33, H⟩ := zar_e H
    obtain ⟨h34, e35, H⟩ := zlet_e H
    refine zA_las rfl rfl e30 c31 c32 e33 e35 ?_
    refine zA_go rfl rfl ?_
    refine zA_tr (L := [none, none, none, none]) rfl rfl ?_
    refine zA_push rfl rfl zkk7 ?_
    cases H
    exact zA_ret rfl rfl
  · cases H
    exact zA_callH (as := [zrv x0, zI x1]) (st' := [zI (0 : Int32), zrv x2]) rfl rfl (zrcv_Q e23 c24) rfl (zmE97 _ _) rfl rfl rfl (List.cons_ne_nil _ _) hc (zmS97 C)
theorem zmE266 (x0 : zq) (x1 : Int32) (x2 : zq) : zpad (zPr.2.1 266).1 (zil [zrv x0, zI x1, zrv x2]) = [some (zrv x0), some (zI x1), some (zrv x2), none] := by
  simp only [zil_A, zil_I, zil_F, zil_D, zil_N]
  rfl
def zm206_15 (x0 : zq) (x1 : Int32) (s0 : zq) (s1 : Int32) (h : zH) : zRs Int32 :=
  zob 12 s0 fun p21 i22 =>
  zlet (zsi h p21 i22 0 s1) fun h25 =>
  zob 12 x0 fun p27 i28 =>
  if (zi h25 p27 i28 0) ≤ 0 then
    zar 1 (zr h25 p27 i28 23) x1 h25 fun p32 i33 j34 =>
    zlet (zsi h25 p32 i33 j34 (-1 : Int32)) fun h39 =>
    zri (zr h39 p27 i28 24) x1 h39 fun v48 =>
    some (.inl v48, h39)
  else
    some (.inl (0 : Int32), h25)
theorem zmS206_15 : ∀ (x0 : zq) (x1 : Int32) (s0 : zq) (s1 : Int32) (h : zH) (r : Int32 ⊕ Nat) (h' : zH), zm206_15 x0 x1 s0 s1 h = some (r, h') → zAt 206 15 [some (zrv x0), some (zI x1)] [zI s1, zrv s0] h (zoI r) h' := by
  intro x0 x1 s0 s1 h r h' H
  unfold zm206_15 at H
  obtain ⟨p21, i22, e23, c24, H⟩ := zob_e H
  obtain ⟨h25, e26, H⟩ := zlet_e H
  refine zA_pf0 rfl rfl e23 c24 e26 ?_
  refine zA_aldn rfl rfl rfl ?_
  obtain ⟨p27, i28, e29, c30, H⟩ := zob_e H
  refine zA_gf0 rfl rfl (Or.inl rfl) e29 c30 ?_
  rcases zite_e H with ⟨c31, H⟩ | ⟨c31, H⟩
  · refine zA_brT (c := (zi h25 p27 i28 0) ≤ 0) rfl rfl rfl c31 ?_
    refine zA_aldn rfl rfl rfl ?_
    refine zA_gf3 rfl rfl e29 c30 ?_
    refine zA_ldn rfl rfl rfl ?_
    refine zA_push rfl rfl zkk6 ?_
    obtain ⟨p32, i33, j34, e35, c36, c37, e38, H⟩ := zar_e H
    obtain ⟨h39, e40, H⟩ := zlet_e H
    refine zA_ias rfl rfl e35 c36 c37 e38 e40 ?_
    refine zA_aldn rfl rfl rfl ?_
    refine zA_gf3 rfl rfl e29 c30 ?_
    refine zA_ldn rfl rfl rfl ?_
    obtain ⟨p41, i42, j43, v48, e44, c45, c46, e47, e49, H⟩ := zri_e H
    refine zA_ial rfl rfl e44 c45 c46 e47 e49 ?_
    cases H
    exact zA_ret rfl rfl
  · refine zA_brF (c := (zi h25 p27 i28 0) ≤ 0) rfl rfl rfl c31 ?_
    refine zA_push rfl rfl zkk7 ?_
    cases H
    exact zA_ret rfl rfl
-- 206: ReleaseHouseModel.halt(I)I
def zm206 (x0 : zq) (x1 : Int32) (h : zH) : zRs Int32 :=
  zb (zm140 x1 h) fun x22 h21 =>
  if x22 = 0 then
    zm206_15 x0 x1 x0 (1 : Int32) h21
  else
    zob 12 x0 fun p24 i25 =>
    zri (zr h21 p24 i25 23) x1 h21 fun v35 =>
    if v35 = (-1 : Int32) then
      zm206_15 x0 x1 x0 (2 : Int32) h21
    else
      zm206_15 x0 x1 x0 (0 : Int32) h21
theorem zmS206 {x0 : zq} {x1 : Int32} {h : zH} {r : Int32 ⊕ Nat} {h' : zH} (H : zm206 x0 x1 h = some (r, h')) : zAt 206 0 [some (zrv x0), some (zI x1)] [] h (zoI r) h' := by
  unfold zm206 at H
  refine zA_aldn rfl rfl rfl ?_
  refine zA_ldn rfl rfl rfl ?_
  rcases zb_e H with ⟨x22, h21, C, H⟩ | ⟨E, h21, C, H⟩
  · refine zA_callV (as := [zI x1]) (st' := [zrv x0]) rfl rfl rfl rfl rfl (zmE140 _) rfl (zmS140 C) ?_
    rcases zite_e H with ⟨c23, H⟩ | ⟨c23, H⟩
    · refine zA_brF' (c := x22 = 0) rfl rfl rfl c23 ?_
      refine zA_push rfl rfl zkk5 ?_
      refine zA_go rfl rfl ?_
      exact zA_tr (L := [some (zrv x0), some (zI x1)]) rfl rfl (zmS206_15 _ _ _ _ _ _ _ H)
    · refine zA_brT' (c := x22 = 0) rfl rfl rfl c23 ?_
      refine zA_aldn rfl rfl rfl ?_
      obtain ⟨p24, i25, e26, c27, H⟩ := zob_e H
      refine zA_gf3 rfl rfl e26 c27 ?_
      refine zA_ldn rfl rfl rfl ?_
      obtain ⟨p28, i29, j30, v35, e31, c32, c33, e34, e36, H⟩ := zri_e H
      refine zA_ial rfl rfl e31 c32 c33 e34 e36 ?_
      refine zA_push rfl rfl zkk6 ?_
      rcases zite_e H with ⟨c37, H⟩ | ⟨c37, H⟩
      · refine zA_brF' (c := v35 = (-1 : Int32)) rfl rfl rfl c37 ?_
        refine zA_push rfl rfl zkk23 ?_
        refine zA_go rfl rfl ?_
        exact zA_tr (L := [some (zrv x0), some (zI x1)]) rfl rfl (zmS206_15 _ _ _ _ _ _ _ H)
      · refine zA_brT' (c := v35 = (-1 : Int32)) rfl rfl rfl c37 ?_
        refine zA_push rfl rfl zkk7 ?_
        exact zA_tr (L := [some (zrv x0), some (zI x1)]) rfl rfl (zmS206_15 _ _ _ _ _ _ _ H)
  · cases H
    exact zA_callX (as := [zI x1]) (st' := [zrv x0]) rfl rfl rfl rfl (zmE140 _) rfl rfl rfl (zmS140 C)
theorem zmE206 (x0 : zq) (x1 : Int32) : zpad (zPr.2.1 206).1 (zil [zrv x0, zI x1]) = [some (zrv x0), some (zI x1)] := by
  simp only [zil_A, zil_I, zil_F, zil_D, zil_N]
  rfl
def zm99_26 (k2 : zq → Int32 → Int32 → Int32 → zH → zRs Int32) (x0 : zq) (x1 : Int32) (x2 : Int32) (x3 : Int32) (h : zH) : zRs Int32 :=
  zlet (x3 + (1 : Int32)) fun x21 =>
  k2 x0 x1 x2 x21 h
theorem zmS99_26 {k2 : zq → Int32 → Int32 → Int32 → zH → zRs Int32} (hk2 : ∀ (x0 : zq) (x1 : Int32) (x2 : Int32) (x3 : Int32) (h : zH) (r : Int32 ⊕ Nat) (h' : zH), k2 x0 x1 x2 x3 h = some (r, h') → zAt 99 2 [some (zrv x0), some (zI x1), some (zI x2), some (zI x3), none] [] h (zoI r) h') : ∀ (x0 : zq) (x1 : Int32) (x2 : Int32) (x3 : Int32) (h : zH) (r : Int32 ⊕ Nat) (h' : zH), zm99_26 k2 x0 x1 x2 x3 h = some (r, h') → zAt 99 26 [some (zrv x0), some (zI x1), some (zI x2), some (zI x3), none] [] h (zoI r) h' := by
  intro x0 x1 x2 x3 h r h' H
  unfold zm99_26 at H
  obtain ⟨x21, e22, H⟩ := zlet_e H
  refine zA_inc rfl rfl rfl (e22.trans (congrArg (_ + ·) zkk8)) (zset1 (L' := [some (zrv x0), some (zI x1), some (zI x2), some (zI x21), none]) rfl rfl (zpcV rfl rfl)) ?_
  refine zA_go rfl rfl ?_
  exact zA_tr (L := [some (zrv x0), some (zI x1), some (zI x2), some (zI x21), none]) rfl rfl (hk2 _ _ _ _ _ _ _ H)
def zm99_2 : Nat → zq → Int32 → Int32 → Int32 → zH → zRs Int32
  | 0, _, _, _, _, _ => none
  | n + 1, x0, x1, x2, x3, h =>
    zob 11 x0 fun p21 i22 =>
    zlz (zr h p21 i22 0) h fun v30 =>
    if v30 ≤ x3 then
      some (.inl (0 : Int32), h)
    else
      zlg (zr h p21 i22 0) x3 h fun v39 =>
      zob 0 v39 fun p41 i42 =>
      if (zi h p41 i42 1) = x1 then
        if (zi h p41 i42 10) ≤ 0 then
          zm99_26 (zm99_2 n) x0 x1 x2 x3 h
        else
          if (zi h p41 i42 7) = x2 then
            some (.inl (1 : Int32), h)
          else
            zm99_26 (zm99_2 n) x0 x1 x2 x3 h
      else
        zm99_26 (zm99_2 n) x0 x1 x2 x3 h
theorem zmS99_2 : ∀ (n : Nat) (x0 : zq) (x1 : Int32) (x2 : Int32) (x3 : Int32) (h : zH) (r : Int32 ⊕ Nat) (h' : zH), zm99_2 n x0 x1 x2 x3 h = some (r, h') → zAt 99 2 [some (zrv x0), some (zI x1), some (zI x2), some (zI x3), none] [] h (zoI r) h' := by
  intro n
  induction n with
  | zero => intro x0 x1 x2 x3 h r h' H; cases H
  | succ n ih =>
    intro x0 x1 x2 x3 h r h' H
    unfold zm99_2 at H
    refine zA_ldn rfl rfl rfl ?_
    refine zA_aldn rfl rfl rfl ?_
    obtain ⟨p21, i22, e23, c24, H⟩ := zob_e H
    refine zA_gf3 rfl rfl e23 c24 ?_
    obtain ⟨p25, i26, v30, e27, c28, c29, e31, H⟩ := zlz_e H
    refine zA_l2 rfl rfl rfl e27 c28 c29 e31 ?_
    rcases zite_e H with ⟨c32, H⟩ | ⟨c32, H⟩
    · refine zA_brT (c := v30 ≤ x3) rfl rfl rfl c32 ?_
      refine zA_tr (L := [none, none, none, none, none]) rfl rfl ?_
      refine zA_push rfl rfl zkk7 ?_
      cases H
      exact zA_ret rfl (zret_Z (by decide))
    · refine zA_brF (c := v30 ≤ x3) rfl rfl rfl c32 ?_
      refine zA_aldn rfl rfl rfl ?_
      refine zA_gf3 rfl rfl e23 c24 ?_
      refine zA_ldn rfl rfl rfl ?_
      obtain ⟨p33, i34, v39, e35, c36, c37, c38, e40, H⟩ := zlg_e H
      refine zA_l3 rfl rfl rfl e35 c36 c37 c38 e40 ?_
      obtain ⟨p41, i42, e43, c44, H⟩ := zob_e H
      refine zA_cast rfl rfl e43 c44 ?_
      refine zA_ast2 rfl rfl rfl (zset1 (L' := [some (zrv x0), some (zI x1), some (zI x2), some (zI x3), some (zrv v39)]) (zcat_rv _) rfl (zpcV rfl rfl)) ?_
      refine zA_ald rfl rfl rfl ?_
      refine zA_gf0 rfl rfl (Or.inl rfl) e43 c44 ?_
      refine zA_ldn rfl rfl rfl ?_
      rcases zite_e H with ⟨c45, H⟩ | ⟨c45, H⟩
      · refine zA_brF' (c := (zi h p41 i42 1) = x1) rfl rfl rfl c45 ?_
        refine zA_ald rfl rfl rfl ?_
        refine zA_gf0 rfl rfl (Or.inl rfl) e43 c44 ?_
        rcases zite_e H with ⟨c46, H⟩ | ⟨c46, H⟩
        · refine zA_brT (c := (zi h p41 i42 10) ≤ 0) rfl rfl rfl c46 ?_
          exact zA_tr (L := [some (zrv x0), some (zI x1), some (zI x2), some (zI x3), none]) rfl rfl (zmS99_26 ih _ _ _ _ _ _ _ H)
        · refine zA_brF (c := (zi h p41 i42 10) ≤ 0) rfl rfl rfl c46 ?_
          refine zA_ald rfl rfl rfl ?_
          refine zA_gf0 rfl rfl (Or.inl rfl) e43 c44 ?_
          refine zA_ldn rfl rfl rfl ?_
          rcases zite_e H with ⟨c47, H⟩ | ⟨c47, H⟩
          · refine zA_brF' (c := (zi h p41 i42 7) = x2) rfl rfl rfl c47 ?_
            refine zA_push rfl rfl zkk5 ?_
            cases H
            exact zA_ret rfl (zret_Z (by decide))
          · refine zA_brT' (c := (zi h p41 i42 7) = x2) rfl rfl rfl c47 ?_
            exact zA_tr (L := [some (zrv x0), some (zI x1), some (zI x2), some (zI x3), none]) rfl rfl (zmS99_26 ih _ _ _ _ _ _ _ H)
      · refine zA_brT' (c := (zi h p41 i42 1) = x1) rfl rfl rfl c45 ?_
        exact zA_tr (L := [some (zrv x0), some (zI x1), some (zI x2), some (zI x3), none]) rfl rfl (zmS99_26 ih _ _ _ _ _ _ _ H)
-- 99: ReleaseHouse.doesOneWrite(II)Z
def zm99 (x0 : zq) (x1 : Int32) (x2 : Int32) (h : zH) : zRs Int32 :=
  zm99_2 zN0 x0 x1 x2 (0 : Int32) h
theorem zmS99 {x0 : zq} {x1 : Int32} {x2 : Int32} {h : zH} {r : Int32 ⊕ Nat} {h' : zH} (H : zm99 x0 x1 x2 h = some (r, h')) : zAt 99 0 [some (zrv x0), some (zI x1), some (zI x2), none, none] [] h (zoI r) h' := by
  unfold zm99 at H
  refine zA_push rfl rfl zkk7 ?_
  refine zA_istn2 rfl rfl rfl (zset1 (L' := [some (zrv x0), some (zI x1), some (zI x2), some (zI (0 : Int32)), none]) rfl rfl (zpcV rfl rfl)) ?_
  exact zA_tr (L := [some (zrv x0), some (zI x1), some (zI x2), some (zI (0 : Int32)), none]) rfl rfl (zmS99_2 zN0 _ _ _ _ _ _ _ H)
theorem zmE99 (x0 : zq) (x1 : Int32) (x2 : Int32) : zpad (zPr.2.1 99).1 (zil [zrv x0, zI x1, zI x2]) = [some (zrv x0), some (zI x1), some (zI x2), none, none] := by
  simp only [zil_A, zil_I, zil_F, zil_D, zil_N]
  rfl
-- 98: ReleaseHouse.contract(II)V
def zm98 (x0 : zq) (x1 : Int32) (x2 : Int32) (h : zH) : zRs Unit :=
  zb (zm131 x1 (0 : Int32) (3 : Int32) h) fun _ h21 =>
  zb (zm131 x2 (0 : Int32) (7 : Int32) h21) fun _ h22 =>
  zob 11 x0 fun p23 i24 =>
  zra (zr h22 p23 i24 6) x1 h22 fun v34 =>
  zob 8 v34 fun p36 i37 =>
  zb (zm133 (zi h22 p36 i37 3) x2 h22) fun x41 h40 =>
  if x41 = 0 then
    some (.inr 1, zro h40 1 6)
  else
    zri (zr h40 p36 i37 1) x2 h40 fun v50 =>
    if 0 < v50 then
      some (.inr 1, zro h40 1 6)
    else
      if (zi h40 p36 i37 5) = x2 then
        some (.inr 1, zro h40 1 6)
      else
        zb (zm99 x0 x1 x2 h40) fun x55 h54 =>
        if x55 = 0 then
          zlet (zsi h54 p36 i37 3 ((zi h54 p36 i37 3) &&& (((1 : Int32) <<< (x2 &&& 31)) ^^^ (-1 : Int32)))) fun h57 =>
          some (.inl (), h57)
        else
          some (.inr 1, zro h54 1 6)
theorem zmS98 {x0 : zq} {x1 : Int32} {x2 : Int32} {h : zH} {r : Unit ⊕ Nat} {h' : zH} (H : zm98 x0 x1 x2 h = some (r, h')) : zAt 98 0 [some (zrv x0), some (zI x1), some (zI x2), none] [] h (zoU r) h' := by
  unfold zm98 at H
  refine zA_ldn rfl rfl rfl ?_
  refine zA_push rfl rfl zkk7 ?_
  refine zA_push rfl rfl zkk3 ?_
  rcases zb_e H with ⟨u60, h21, C, H⟩ | ⟨E, h21, C, H⟩
  · refine zA_callU (as := [zI x1, zI (0 : Int32), zI (3 : Int32)]) (st' := []) rfl rfl rfl rfl rfl (zmE131 _ _ _) rfl (zmS131 C) ?_
    refine zA_ldn rfl rfl rfl ?_
    refine zA_push rfl rfl zkk7 ?_
    refine zA_push rfl rfl zkk22 ?_
    rcases zb_e H with ⟨u59, h22, C, H⟩ | ⟨E, h22, C, H⟩
    · refine zA_callU (as := [zI x2, zI (0 : Int32), zI (7 : Int32)]) (st' := []) rfl rfl rfl rfl rfl (zmE131 _ _ _) rfl (zmS131 C) ?_
      refine zA_aldn rfl rfl rfl ?_
      obtain ⟨p23, i24, e25, c26, H⟩ := zob_e H
      refine zA_gf3 rfl rfl e25 c26 ?_
      refine zA_ldn rfl rfl rfl ?_
      obtain ⟨p27, i28, j29, v34, e30, c31, c32, e33, e35, H⟩ := zra_e H
      refine zA_aal rfl rfl e30 c31 c32 e33 e35 ?_
      refine zA_astn2 rfl rfl rfl (zset1 (L' := [some (zrv x0), some (zI x1), some (zI x2), some (zrv v34)]) (zcat_rv _) rfl (zpcV rfl rfl)) ?_
      refine zA_aldn rfl rfl rfl ?_
      obtain ⟨p36, i37, e38, c39, H⟩ := zob_e H
      refine zA_gf0 rfl rfl (Or.inl rfl) e38 c39 ?_
      refine zA_ldn rfl rfl rfl ?_
      rcases zb_e H with ⟨x41, h40, C, H⟩ | ⟨E, h40, C, H⟩
      · refine zA_callV (as := [zI (zi h22 p36 i37 3), zI x2]) (st' := []) rfl rfl rfl rfl rfl (zmE133 _ _) rfl (zmS133 C) ?_
        rcases zite_e H with ⟨c42, H⟩ | ⟨c42, H⟩
        · refine zA_brT (c := x41 = 0) rfl rfl rfl c42 ?_
          refine zA_tr (L := [none, none, none, none]) rfl rfl ?_
          cases H
          exact zA_thr rfl rfl
        · refine zA_brF (c := x41 = 0) rfl rfl rfl c42 ?_
          refine zA_aldn rfl rfl rfl ?_
          refine zA_gf3 rfl rfl e38 c39 ?_
          refine zA_ldn rfl rfl rfl ?_
          obtain ⟨p43, i44, j45, v50, e46, c47, c48, e49, e51, H⟩ := zri_e H
          refine zA_ial rfl rfl e46 c47 c48 e49 e51 ?_
          rcases zite_e H with ⟨c52, H⟩ | ⟨c52, H⟩
          · refine zA_brT (c := 0 < v50) rfl rfl rfl c52 ?_
            refine zA_tr (L := [none, none, none, none]) rfl rfl ?_
            cases H
            exact zA_thr rfl rfl
          · refine zA_brF (c := 0 < v50) rfl rfl rfl c52 ?_
            refine zA_aldn rfl rfl rfl ?_
            refine zA_gf0 rfl rfl (Or.inl rfl) e38 c39 ?_
            refine zA_ldn rfl rfl rfl ?_
            rcases zite_e H with ⟨c53, H⟩ | ⟨c53, H⟩
            · refine zA_brT (c := (zi h40 p36 i37 5) = x2) rfl rfl rfl c53 ?_
              refine zA_tr (L := [none, none, none, none]) rfl rfl ?_
              cases H
              exact zA_thr rfl rfl
            · refine zA_brF (c := (zi h40 p36 i37 5) = x2) rfl rfl rfl c53 ?_
              refine zA_aldn rfl rfl rfl ?_
              refine zA_ldn rfl rfl rfl ?_
              refine zA_ldn rfl rfl rfl ?_
              rcases zb_e H with ⟨x55, h54, C, H⟩ | ⟨E, h54, C, H⟩
              · refine zA_callV (as := [zrv x0, zI x1, zI x2]) (st' := []) rfl rfl rfl (zrcv_Q e25 c26) rfl (zmE99 _ _ _) rfl (zmS99 C) ?_
                rcases zite_e H with ⟨c56, H⟩ | ⟨c56, H⟩
                · refine zA_brT (c := x55 = 0) rfl rfl rfl c56 ?_
                  refine zA_tr (L := [none, none, some (zI x2), some (zrv v34)]) rfl rfl ?_
                  refine zA_aldn rfl rfl rfl ?_
                  refine zA_dup rfl rfl (zcat_rv _) ?_
                  refine zA_gf0 rfl rfl (Or.inl rfl) e38 c39 ?_
                  refine zA_push rfl rfl zkk5 ?_
                  refine zA_ldn rfl rfl rfl ?_
                  refine zA_st (st' := [zI ((1 : Int32) <<< (x2 &&& 31)), zI (zi h54 p36 i37 3), zrv v34]) rfl rfl rfl rfl ?_
                  refine zA_push rfl rfl zkk6 ?_
                  refine zA_st (st' := [zI (((1 : Int32) <<< (x2 &&& 31)) ^^^ (-1 : Int32)), zI (zi h54 p36 i37 3), zrv v34]) rfl rfl rfl rfl ?_
                  refine zA_st (st' := [zI ((zi h54 p36 i37 3) &&& (((1 : Int32) <<< (x2 &&& 31)) ^^^ (-1 : Int32))), zrv v34]) rfl rfl rfl rfl ?_
                  obtain ⟨h57, e58, H⟩ := zlet_e H
                  refine zA_pf0 rfl rfl e38 c39 e58 ?_
                  cases H
                  exact zA_ret rfl rfl
                · refine zA_brF (c := x55 = 0) rfl rfl rfl c56 ?_
                  refine zA_tr (L := [none, none, none, none]) rfl rfl ?_
                  cases H
                  exact zA_thr rfl rfl
              · cases H
                exact zA_callX (as := [zrv x0, zI x1, zI x2]) (st' := []) rfl rfl (zrcv_Q e25 c26) rfl (zmE99 _ _ _) rfl rfl rfl (zmS99 C)
      · cases H
        exact zA_callX (as := [zI (zi h22 p36 i37 3), zI x2]) (st' := []) rfl rfl rfl rfl (zmE133 _ _) rfl rfl rfl (zmS133 C)
    · cases H
      exact zA_callX (as := [zI x2, zI (0 : Int32), zI (7 : Int32)]) (st' := []) rfl rfl rfl rfl (zmE131 _ _ _) rfl rfl rfl (zmS131 C)
  · cases H
    exact zA_callX (as := [zI x1, zI (0 : Int32), zI (3 : Int32)]) (st' := []) rfl rfl rfl rfl (zmE131 _ _ _) rfl rfl rfl (zmS131 C)
theorem zmE98 (x0 : zq) (x1 : Int32) (x2 : Int32) : zpad (zPr.2.1 98).1 (zil [zrv x0, zI x1, zI x2]) = [some (zrv x0), some (zI x1), some (zI x2), none] := by
  simp only [zil_A, zil_I, zil_F, zil_D, zil_N]
  rfl
-- 267: ReleaseHouseLaw.contract(LReleaseHouse;II)I
def zm267 (x0 : zq) (x1 : Int32) (x2 : Int32) (h : zH) : zRs Int32 :=
  zob 11 x0 fun p21 i22 =>
  zbH [(0, 4, 0, 1), (0, 4, 1, 2)] 3 (zm98 x0 x1 x2 h) fun _ h25 =>
  some (.inl (0 : Int32), h25)
theorem zmS267 {x0 : zq} {x1 : Int32} {x2 : Int32} {h : zH} {r : Int32 ⊕ Nat} {h' : zH} (H : zm267 x0 x1 x2 h = some (r, h')) : zAt 267 0 [some (zrv x0), some (zI x1), some (zI x2), none] [] h (zoI r) h' := by
  unfold zm267 at H
  refine zA_aldn rfl rfl rfl ?_
  refine zA_ldn rfl rfl rfl ?_
  refine zA_ldn rfl rfl rfl ?_
  obtain ⟨p21, i22, e23, c24, H⟩ := zob_e H
  rcases zbH_e H with ⟨u26, h25, C, H⟩ | ⟨E, h25, c27, C, hc, H⟩
  · refine zA_callU (as := [zrv x0, zI x1, zI x2]) (st' := []) rfl rfl rfl (zrcv_Q e23 c24) rfl (zmE98 _ _ _) rfl (zmS98 C) ?_
    refine zA_go rfl rfl ?_
    refine zA_tr (L := [none, none, none, none]) rfl rfl ?_
    refine zA_push rfl rfl zkk7 ?_
    cases H
    exact zA_ret rfl rfl
  · cases H
    exact zA_callH (as := [zrv x0, zI x1, zI x2]) (st' := []) rfl rfl (zrcv_Q e23 c24) rfl (zmE98 _ _ _) rfl rfl rfl (List.cons_ne_nil _ _) hc (zmS98 C)
theorem zmE267 (x0 : zq) (x1 : Int32) (x2 : Int32) : zpad (zPr.2.1 267).1 (zil [zrv x0, zI x1, zI x2]) = [some (zrv x0), some (zI x1), some (zI x2), none] := by
  simp only [zil_A, zil_I, zil_F, zil_D, zil_N]
  rfl
def zm207_50 (x0 : zq) (x1 : Int32) (x2 : Int32) (x3 : Int32) (s0 : zq) (s1 : Int32) (h : zH) : zRs Unit :=
  zob 12 s0 fun p21 i22 =>
  zlet (zsi h p21 i22 0 s1) fun h25 =>
  if x3 = 0 then
    some (.inl (), h25)
  else
    zob 12 x0 fun p28 i29 =>
    zri (zr h25 p28 i29 21) x1 h25 fun v39 =>
    zar 1 (zr h25 p28 i29 21) x1 h25 fun p41 i42 j43 =>
    zlet (zsi h25 p41 i42 j43 (v39 &&& (((1 : Int32) <<< (x2 &&& 31)) ^^^ (-1 : Int32)))) fun h48 =>
    some (.inl (), h48)
theorem zmS207_50 : ∀ (x0 : zq) (x1 : Int32) (x2 : Int32) (x3 : Int32) (s0 : zq) (s1 : Int32) (h : zH) (r : Unit ⊕ Nat) (h' : zH), zm207_50 x0 x1 x2 x3 s0 s1 h = some (r, h') → zAt 207 50 [some (zrv x0), some (zI x1), some (zI x2), some (zI x3)] [zI s1, zrv s0] h (zoU r) h' := by
  intro x0 x1 x2 x3 s0 s1 h r h' H
  unfold zm207_50 at H
  obtain ⟨p21, i22, e23, c24, H⟩ := zob_e H
  obtain ⟨h25, e26, H⟩ := zlet_e H
  refine zA_pf0 rfl rfl e23 c24 e26 ?_
  refine zA_ldn rfl rfl rfl ?_
  rcases zite_e H with ⟨c27, H⟩ | ⟨c27, H⟩
  · refine zA_brT (c := x3 = 0) rfl rfl rfl c27 ?_
    refine zA_tr (L := [none, none, none, none]) rfl rfl ?_
    cases H
    exact zA_ret rfl rfl
  · refine zA_brF (c := x3 = 0) rfl rfl rfl c27 ?_
    refine zA_aldn rfl rfl rfl ?_
    obtain ⟨p28, i29, e30, c31, H⟩ := zob_e H
    refine zA_gf3 rfl rfl e30 c31 ?_
    refine zA_ldn rfl rfl rfl ?_
    refine zA_dup2 rfl rfl rfl (zcat_rv _) ?_
    obtain ⟨p32, i33, j34, v39, e35, c36, c37, e38, e40, H⟩ := zri_e H
    refine zA_ial rfl rfl e35 c36 c37 e38 e40 ?_
    refine zA_push rfl rfl zkk5 ?_
    refine zA_ldn rfl rfl rfl ?_
    refine zA_st (st' := [zI ((1 : Int32) <<< (x2 &&& 31)), zI v39, zI x1, zrv (zr h25 p28 i29 21)]) rfl rfl rfl rfl ?_
    refine zA_push rfl rfl zkk6 ?_
    refine zA_st (st' := [zI (((1 : Int32) <<< (x2 &&& 31)) ^^^ (-1 : Int32)), zI v39, zI x1, zrv (zr h25 p28 i29 21)]) rfl rfl rfl rfl ?_
    refine zA_st (st' := [zI (v39 &&& (((1 : Int32) <<< (x2 &&& 31)) ^^^ (-1 : Int32))), zI x1, zrv (zr h25 p28 i29 21)]) rfl rfl rfl rfl ?_
    obtain ⟨p41, i42, j43, e44, c45, c46, e47, H⟩ := zar_e H
    obtain ⟨h48, e49, H⟩ := zlet_e H
    refine zA_ias rfl rfl e44 c45 c46 e47 e49 ?_
    refine zA_tr (L := [none, none, none, none]) rfl rfl ?_
    cases H
    exact zA_ret rfl rfl
def zm207_43 (x0 : zq) (x1 : Int32) (x2 : Int32) (s0 : Int32) (h : zH) : zRs Unit :=
  if s0 = 0 then
    zm207_50 x0 x1 x2 s0 x0 (2 : Int32) h
  else
    zm207_50 x0 x1 x2 s0 x0 (0 : Int32) h
theorem zmS207_43 : ∀ (x0 : zq) (x1 : Int32) (x2 : Int32) (s0 : Int32) (h : zH) (r : Unit ⊕ Nat) (h' : zH), zm207_43 x0 x1 x2 s0 h = some (r, h') → zAt 207 43 [some (zrv x0), some (zI x1), some (zI x2), none] [zI s0] h (zoU r) h' := by
  intro x0 x1 x2 s0 h r h' H
  unfold zm207_43 at H
  refine zA_istn2 rfl rfl rfl (zset1 (L' := [some (zrv x0), some (zI x1), some (zI x2), some (zI s0)]) rfl rfl (zpcV rfl rfl)) ?_
  refine zA_aldn rfl rfl rfl ?_
  refine zA_ldn rfl rfl rfl ?_
  rcases zite_e H with ⟨c21, H⟩ | ⟨c21, H⟩
  · refine zA_brT (c := s0 = 0) rfl rfl rfl c21 ?_
    refine zA_push rfl rfl zkk23 ?_
    exact zA_tr (L := [some (zrv x0), some (zI x1), some (zI x2), some (zI s0)]) rfl rfl (zmS207_50 _ _ _ _ _ _ _ _ _ H)
  · refine zA_brF (c := s0 = 0) rfl rfl rfl c21 ?_
    refine zA_push rfl rfl zkk7 ?_
    refine zA_go rfl rfl ?_
    exact zA_tr (L := [some (zrv x0), some (zI x1), some (zI x2), some (zI s0)]) rfl rfl (zmS207_50 _ _ _ _ _ _ _ _ _ H)
-- 207: ReleaseHouseModel.contract(II)V
def zm207 (x0 : zq) (x1 : Int32) (x2 : Int32) (h : zH) : zRs Unit :=
  zob 12 x0 fun p21 i22 =>
  zb (zm202 x0 x1 x2 h) fun x26 h25 =>
  if x26 = 0 then
    zlet (zsi h25 p21 i22 0 (1 : Int32)) fun h28 =>
    some (.inl (), h28)
  else
    zri (zr h25 p21 i22 21) x1 h25 fun v37 =>
    if ((v37 >>> (x2 &&& 31)) &&& (1 : Int32)) = (1 : Int32) then
      zri (zr h25 p21 i22 20) (((8 : Int32) * x1) + x2) h25 fun v47 =>
      if v47 = 0 then
        zb (zm203 x0 x1 x2 (1 : Int32) h25) fun x51 h50 =>
        if x51 = 0 then
          zri (zr h50 p21 i22 23) x1 h50 fun v60 =>
          if v60 = x2 then
            zm207_43 x0 x1 x2 (0 : Int32) h50
          else
            zm207_43 x0 x1 x2 (1 : Int32) h50
        else
          zm207_43 x0 x1 x2 (0 : Int32) h50
      else
        zm207_43 x0 x1 x2 (0 : Int32) h25
    else
      zm207_43 x0 x1 x2 (0 : Int32) h25
theorem zmS207 {x0 : zq} {x1 : Int32} {x2 : Int32} {h : zH} {r : Unit ⊕ Nat} {h' : zH} (H : zm207 x0 x1 x2 h = some (r, h')) : zAt 207 0 [some (zrv x0), some (zI x1), some (zI x2), none] [] h (zoU r) h' := by
  unfold zm207 at H
  refine zA_aldn rfl rfl rfl ?_
  refine zA_ldn rfl rfl rfl ?_
  refine zA_ldn rfl rfl rfl ?_
  obtain ⟨p21, i22, e23, c24, H⟩ := zob_e H
  rcases zb_e H with ⟨x26, h25, C, H⟩ | ⟨E, h25, C, H⟩
  · refine zA_callV (as := [zrv x0, zI x1, zI x2]) (st' := []) rfl rfl rfl (zrcv_Q e23 c24) rfl (zmE202 _ _ _) rfl (zmS202 C) ?_
    rcases zite_e H with ⟨c27, H⟩ | ⟨c27, H⟩
    · refine zA_brF' (c := x26 = 0) rfl rfl rfl c27 ?_
      refine zA_aldn rfl rfl rfl ?_
      refine zA_push rfl rfl zkk5 ?_
      obtain ⟨h28, e29, H⟩ := zlet_e H
      refine zA_pf0 rfl rfl e23 c24 e29 ?_
      cases H
      exact zA_ret rfl rfl
    · refine zA_brT' (c := x26 = 0) rfl rfl rfl c27 ?_
      refine zA_aldn rfl rfl rfl ?_
      refine zA_gf3 rfl rfl e23 c24 ?_
      refine zA_ldn rfl rfl rfl ?_
      obtain ⟨p30, i31, j32, v37, e33, c34, c35, e36, e38, H⟩ := zri_e H
      refine zA_ial rfl rfl e33 c34 c35 e36 e38 ?_
      refine zA_ldn rfl rfl rfl ?_
      refine zA_st (st' := [zI (v37 >>> (x2 &&& 31))]) rfl rfl rfl rfl ?_
      refine zA_push rfl rfl zkk5 ?_
      refine zA_st (st' := [zI ((v37 >>> (x2 &&& 31)) &&& (1 : Int32))]) rfl rfl rfl rfl ?_
      refine zA_push rfl rfl zkk5 ?_
      rcases zite_e H with ⟨c39, H⟩ | ⟨c39, H⟩
      · refine zA_brF' (c := ((v37 >>> (x2 &&& 31)) &&& (1 : Int32)) = (1 : Int32)) rfl rfl rfl c39 ?_
        refine zA_aldn rfl rfl rfl ?_
        refine zA_gf3 rfl rfl e23 c24 ?_
        refine zA_push rfl rfl zkk0 ?_
        refine zA_ldn rfl rfl rfl ?_
        refine zA_st (st' := [zI ((8 : Int32) * x1), zrv (zr h25 p21 i22 20)]) rfl rfl rfl rfl ?_
        refine zA_ldn rfl rfl rfl ?_
        refine zA_st (st' := [zI (((8 : Int32) * x1) + x2), zrv (zr h25 p21 i22 20)]) rfl rfl rfl rfl ?_
        obtain ⟨p40, i41, j42, v47, e43, c44, c45, e46, e48, H⟩ := zri_e H
        refine zA_ial rfl rfl e43 c44 c45 e46 e48 ?_
        rcases zite_e H with ⟨c49, H⟩ | ⟨c49, H⟩
        · refine zA_brF' (c := v47 = 0) rfl rfl rfl c49 ?_
          refine zA_aldn rfl rfl rfl ?_
          refine zA_ldn rfl rfl rfl ?_
          refine zA_ldn rfl rfl rfl ?_
          refine zA_push rfl rfl zkk5 ?_
          rcases zb_e H with ⟨x51, h50, C, H⟩ | ⟨E, h50, C, H⟩
          · refine zA_callV (as := [zrv x0, zI x1, zI x2, zI (1 : Int32)]) (st' := []) rfl rfl rfl (zrcv_Q e23 c24) rfl (zmE203 _ _ _ _) rfl (zmS203 C) ?_
            rcases zite_e H with ⟨c52, H⟩ | ⟨c52, H⟩
            · refine zA_brF' (c := x51 = 0) rfl rfl rfl c52 ?_
              refine zA_aldn rfl rfl rfl ?_
              refine zA_gf3 rfl rfl e23 c24 ?_
              refine zA_ldn rfl rfl rfl ?_
              obtain ⟨p53, i54, j55, v60, e56, c57, c58, e59, e61, H⟩ := zri_e H
              refine zA_ial rfl rfl e56 c57 c58 e59 e61 ?_
              refine zA_ldn rfl rfl rfl ?_
              rcases zite_e H with ⟨c62, H⟩ | ⟨c62, H⟩
              · refine zA_brT (c := v60 = x2) rfl rfl rfl c62 ?_
                refine zA_push rfl rfl zkk7 ?_
                exact zA_tr (L := [some (zrv x0), some (zI x1), some (zI x2), none]) rfl rfl (zmS207_43 _ _ _ _ _ _ _ H)
              · refine zA_brF (c := v60 = x2) rfl rfl rfl c62 ?_
                refine zA_push rfl rfl zkk5 ?_
                refine zA_go rfl rfl ?_
                exact zA_tr (L := [some (zrv x0), some (zI x1), some (zI x2), none]) rfl rfl (zmS207_43 _ _ _ _ _ _ _ H)
            · refine zA_brT' (c := x51 = 0) rfl rfl rfl c52 ?_
              refine zA_push rfl rfl zkk7 ?_
              exact zA_tr (L := [some (zrv x0), some (zI x1), some (zI x2), none]) rfl rfl (zmS207_43 _ _ _ _ _ _ _ H)
          · cases H
            exact zA_callX (as := [zrv x0, zI x1, zI x2, zI (1 : Int32)]) (st' := []) rfl rfl (zrcv_Q e23 c24) rfl (zmE203 _ _ _ _) rfl rfl rfl (zmS203 C)
        · refine zA_brT' (c := v47 = 0) rfl rfl rfl c49 ?_
          refine zA_push rfl rfl zkk7 ?_
          exact zA_tr (L := [some (zrv x0), some (zI x1), some (zI x2), none]) rfl rfl (zmS207_43 _ _ _ _ _ _ _ H)
      · refine zA_brT' (c := ((v37 >>> (x2 &&& 31)) &&& (1 : Int32)) = (1 : Int32)) rfl rfl rfl c39 ?_
        refine zA_push rfl rfl zkk7 ?_
        exact zA_tr (L := [some (zrv x0), some (zI x1), some (zI x2), none]) rfl rfl (zmS207_43 _ _ _ _ _ _ _ H)
  · cases H
    exact zA_callX (as := [zrv x0, zI x1, zI x2]) (st' := []) rfl rfl (zrcv_Q e23 c24) rfl (zmE202 _ _ _) rfl rfl rfl (zmS202 C)
theorem zmE207 (x0 : zq) (x1 : Int32) (x2 : Int32) : zpad (zPr.2.1 207).1 (zil [zrv x0, zI x1, zI x2]) = [some (zrv x0), some (zI x1), some (zI x2), none] := by
  simp only [zil_A, zil_I, zil_F, zil_D, zil_N]
  rfl
-- 100: ReleaseHouse.units(II)I
def zm100 (x0 : zq) (x1 : Int32) (x2 : Int32) (h : zH) : zRs Int32 :=
  zb (zm131 x1 (0 : Int32) (3 : Int32) h) fun _ h21 =>
  zb (zm131 x2 (0 : Int32) (7 : Int32) h21) fun _ h22 =>
  zob 11 x0 fun p23 i24 =>
  zra (zr h22 p23 i24 6) x1 h22 fun v34 =>
  zob 8 v34 fun p36 i37 =>
  zri (zr h22 p36 i37 1) x2 h22 fun v47 =>
  some (.inl v47, h22)
theorem zmS100 {x0 : zq} {x1 : Int32} {x2 : Int32} {h : zH} {r : Int32 ⊕ Nat} {h' : zH} (H : zm100 x0 x1 x2 h = some (r, h')) : zAt 100 0 [some (zrv x0), some (zI x1), some (zI x2)] [] h (zoI r) h' := by
  unfold zm100 at H
  refine zA_ldn rfl rfl rfl ?_
  refine zA_push rfl rfl zkk7 ?_
  refine zA_push rfl rfl zkk3 ?_
  rcases zb_e H with ⟨u50, h21, C, H⟩ | ⟨E, h21, C, H⟩
  · refine zA_callU (as := [zI x1, zI (0 : Int32), zI (3 : Int32)]) (st' := []) rfl rfl rfl rfl rfl (zmE131 _ _ _) rfl (zmS131 C) ?_
    refine zA_ldn rfl rfl rfl ?_
    refine zA_push rfl rfl zkk7 ?_
    refine zA_push rfl rfl zkk22 ?_
    rcases zb_e H with ⟨u49, h22, C, H⟩ | ⟨E, h22, C, H⟩
    · refine zA_callU (as := [zI x2, zI (0 : Int32), zI (7 : Int32)]) (st' := []) rfl rfl rfl rfl rfl (zmE131 _ _ _) rfl (zmS131 C) ?_
      refine zA_aldn rfl rfl rfl ?_
      obtain ⟨p23, i24, e25, c26, H⟩ := zob_e H
      refine zA_gf3 rfl rfl e25 c26 ?_
      refine zA_ldn rfl rfl rfl ?_
      obtain ⟨p27, i28, j29, v34, e30, c31, c32, e33, e35, H⟩ := zra_e H
      refine zA_aal rfl rfl e30 c31 c32 e33 e35 ?_
      obtain ⟨p36, i37, e38, c39, H⟩ := zob_e H
      refine zA_gf3 rfl rfl e38 c39 ?_
      refine zA_ldn rfl rfl rfl ?_
      obtain ⟨p40, i41, j42, v47, e43, c44, c45, e46, e48, H⟩ := zri_e H
      refine zA_ial rfl rfl e43 c44 c45 e46 e48 ?_
      cases H
      exact zA_ret rfl rfl
    · cases H
      exact zA_callX (as := [zI x2, zI (0 : Int32), zI (7 : Int32)]) (st' := []) rfl rfl rfl rfl (zmE131 _ _ _) rfl rfl rfl (zmS131 C)
  · cases H
    exact zA_callX (as := [zI x1, zI (0 : Int32), zI (3 : Int32)]) (st' := []) rfl rfl rfl rfl (zmE131 _ _ _) rfl rfl rfl (zmS131 C)
theorem zmE100 (x0 : zq) (x1 : Int32) (x2 : Int32) : zpad (zPr.2.1 100).1 (zil [zrv x0, zI x1, zI x2]) = [some (zrv x0), some (zI x1), some (zI x2)] := by
  simp only [zil_A, zil_I, zil_F, zil_D, zil_N]
  rfl
-- 268: ReleaseHouseLaw.units(LReleaseHouse;II[J)I
def zm268 (x0 : zq) (x1 : Int32) (x2 : Int32) (x3 : zq) (h : zH) : zRs Int32 :=
  zob 11 x0 fun p21 i22 =>
  zbH [(0, 8, 0, 1)] 5 (zm100 x0 x1 x2 h) fun x26 h25 =>
  zar 3 x3 (0 : Int32) h25 fun p27 i28 j29 =>
  zlet (zsl h25 p27 i28 j29 (x26.toInt64)) fun h34 =>
  some (.inl (0 : Int32), h34)
theorem zmS268 {x0 : zq} {x1 : Int32} {x2 : Int32} {x3 : zq} {h : zH} {r : Int32 ⊕ Nat} {h' : zH} (H : zm268 x0 x1 x2 x3 h = some (r, h')) : zAt 268 0 [some (zrv x0), some (zI x1), some (zI x2), some (zrv x3), none] [] h (zoI r) h' := by
  unfold zm268 at H
  refine zA_aldn rfl rfl rfl ?_
  refine zA_push rfl rfl zkk7 ?_
  refine zA_aldn rfl rfl rfl ?_
  refine zA_ldn rfl rfl rfl ?_
  refine zA_ldn rfl rfl rfl ?_
  obtain ⟨p21, i22, e23, c24, H⟩ := zob_e H
  rcases zbH_e H with ⟨x26, h25, C, H⟩ | ⟨E, h25, c36, C, hc, H⟩
  · refine zA_callV (as := [zrv x0, zI x1, zI x2]) (st' := [zI (0 : Int32), zrv x3]) rfl rfl rfl (zrcv_Q e23 c24) rfl (zmE100 _ _ _) rfl (zmS100 C) ?_
    refine zA_st (st' := [zJ (x26.toInt64), zI (0 : Int32), zrv x3]) rfl rfl rfl rfl ?_
    obtain ⟨p27, i28, j29, e30, c31, c32, e33, H⟩ := zar_e H
    obtain ⟨h34, e35, H⟩ := zlet_e H
    refine zA_las rfl rfl e30 c31 c32 e33 e35 ?_
    refine zA_go rfl rfl ?_
    refine zA_tr (L := [none, none, none, none, none]) rfl rfl ?_
    refine zA_push rfl rfl zkk7 ?_
    cases H
    exact zA_ret rfl rfl
  · cases H
    exact zA_callH (as := [zrv x0, zI x1, zI x2]) (st' := [zI (0 : Int32), zrv x3]) rfl rfl (zrcv_Q e23 c24) rfl (zmE100 _ _ _) rfl rfl rfl (List.cons_ne_nil _ _) hc (zmS100 C)
theorem zmE268 (x0 : zq) (x1 : Int32) (x2 : Int32) (x3 : zq) : zpad (zPr.2.1 268).1 (zil [zrv x0, zI x1, zI x2, zrv x3]) = [some (zrv x0), some (zI x1), some (zI x2), some (zrv x3), none] := by
  simp only [zil_A, zil_I, zil_F, zil_D, zil_N]
  rfl
def zm208_9 (x0 : zq) (x1 : Int32) (x2 : Int32) (s0 : zq) (s1 : Int32) (h : zH) : zRs Int32 :=
  zob 12 s0 fun p21 i22 =>
  zlet (zsi h p21 i22 0 s1) fun h25 =>
  zob 12 x0 fun p27 i28 =>
  if (zi h25 p27 i28 0) ≤ 0 then
    zri (zr h25 p27 i28 20) (((8 : Int32) * x1) + x2) h25 fun v39 =>
    some (.inl v39, h25)
  else
    some (.inl (0 : Int32), h25)
theorem zmS208_9 : ∀ (x0 : zq) (x1 : Int32) (x2 : Int32) (s0 : zq) (s1 : Int32) (h : zH) (r : Int32 ⊕ Nat) (h' : zH), zm208_9 x0 x1 x2 s0 s1 h = some (r, h') → zAt 208 9 [some (zrv x0), some (zI x1), some (zI x2)] [zI s1, zrv s0] h (zoI r) h' := by
  intro x0 x1 x2 s0 s1 h r h' H
  unfold zm208_9 at H
  obtain ⟨p21, i22, e23, c24, H⟩ := zob_e H
  obtain ⟨h25, e26, H⟩ := zlet_e H
  refine zA_pf0 rfl rfl e23 c24 e26 ?_
  refine zA_aldn rfl rfl rfl ?_
  obtain ⟨p27, i28, e29, c30, H⟩ := zob_e H
  refine zA_gf0 rfl rfl (Or.inl rfl) e29 c30 ?_
  rcases zite_e H with ⟨c31, H⟩ | ⟨c31, H⟩
  · refine zA_brT (c := (zi h25 p27 i28 0) ≤ 0) rfl rfl rfl c31 ?_
    refine zA_aldn rfl rfl rfl ?_
    refine zA_gf3 rfl rfl e29 c30 ?_
    refine zA_push rfl rfl zkk0 ?_
    refine zA_ldn rfl rfl rfl ?_
    refine zA_st (st' := [zI ((8 : Int32) * x1), zrv (zr h25 p27 i28 20)]) rfl rfl rfl rfl ?_
    refine zA_ldn rfl rfl rfl ?_
    refine zA_st (st' := [zI (((8 : Int32) * x1) + x2), zrv (zr h25 p27 i28 20)]) rfl rfl rfl rfl ?_
    obtain ⟨p32, i33, j34, v39, e35, c36, c37, e38, e40, H⟩ := zri_e H
    refine zA_ial rfl rfl e35 c36 c37 e38 e40 ?_
    refine zA_tr (L := [none, none, none]) rfl rfl ?_
    cases H
    exact zA_ret rfl rfl
  · refine zA_brF (c := (zi h25 p27 i28 0) ≤ 0) rfl rfl rfl c31 ?_
    refine zA_push rfl rfl zkk7 ?_
    refine zA_go rfl rfl ?_
    refine zA_tr (L := [none, none, none]) rfl rfl ?_
    cases H
    exact zA_ret rfl rfl
-- 208: ReleaseHouseModel.units(II)I
def zm208 (x0 : zq) (x1 : Int32) (x2 : Int32) (h : zH) : zRs Int32 :=
  zob 12 x0 fun p21 i22 =>
  zb (zm202 x0 x1 x2 h) fun x26 h25 =>
  if x26 = 0 then
    zm208_9 x0 x1 x2 x0 (1 : Int32) h25
  else
    zm208_9 x0 x1 x2 x0 (0 : Int32) h25
theorem zmS208 {x0 : zq} {x1 : Int32} {x2 : Int32} {h : zH} {r : Int32 ⊕ Nat} {h' : zH} (H : zm208 x0 x1 x2 h = some (r, h')) : zAt 208 0 [some (zrv x0), some (zI x1), some (zI x2)] [] h (zoI r) h' := by
  unfold zm208 at H
  refine zA_aldn rfl rfl rfl ?_
  refine zA_aldn rfl rfl rfl ?_
  refine zA_ldn rfl rfl rfl ?_
  refine zA_ldn rfl rfl rfl ?_
  obtain ⟨p21, i22, e23, c24, H⟩ := zob_e H
  rcases zb_e H with ⟨x26, h25, C, H⟩ | ⟨E, h25, C, H⟩
  · refine zA_callV (as := [zrv x0, zI x1, zI x2]) (st' := [zrv x0]) rfl rfl rfl (zrcv_Q e23 c24) rfl (zmE202 _ _ _) rfl (zmS202 C) ?_
    rcases zite_e H with ⟨c27, H⟩ | ⟨c27, H⟩
    · refine zA_brT (c := x26 = 0) rfl rfl rfl c27 ?_
      refine zA_push rfl rfl zkk5 ?_
      exact zA_tr (L := [some (zrv x0), some (zI x1), some (zI x2)]) rfl rfl (zmS208_9 _ _ _ _ _ _ _ _ H)
    · refine zA_brF (c := x26 = 0) rfl rfl rfl c27 ?_
      refine zA_push rfl rfl zkk7 ?_
      refine zA_go rfl rfl ?_
      exact zA_tr (L := [some (zrv x0), some (zI x1), some (zI x2)]) rfl rfl (zmS208_9 _ _ _ _ _ _ _ _ H)
  · cases H
    exact zA_callX (as := [zrv x0, zI x1, zI x2]) (st' := [zrv x0]) rfl rfl (zrcv_Q e23 c24) rfl (zmE202 _ _ _) rfl rfl rfl (zmS202 C)
theorem zmE208 (x0 : zq) (x1 : Int32) (x2 : Int32) : zpad (zPr.2.1 208).1 (zil [zrv x0, zI x1, zI x2]) = [some (zrv x0), some (zI x1), some (zI x2)] := by
  simp only [zil_A, zil_I, zil_F, zil_D, zil_N]
  rfl
-- 31: ReleaseHouse$Spot.sampleOf(Z)LReleaseHouse$Sample;
def zm31 (x0 : zq) (x1 : Int32) (h : zH) : zRs zq :=
  if x1 = 0 then
    zob 9 x0 fun p22 i23 =>
    some (.inl (zr h p22 i23 6), h)
  else
    zob 9 x0 fun p26 i27 =>
    some (.inl (zr h p26 i27 5), h)
theorem zmS31 {x0 : zq} {x1 : Int32} {h : zH} {r : zq ⊕ Nat} {h' : zH} (H : zm31 x0 x1 h = some (r, h')) : zAt 31 0 [some (zrv x0), some (zI x1)] [] h (zoA r) h' := by
  unfold zm31 at H
  refine zA_ldn rfl rfl rfl ?_
  rcases zite_e H with ⟨c21, H⟩ | ⟨c21, H⟩
  · refine zA_brT (c := x1 = 0) rfl rfl rfl c21 ?_
    refine zA_tr (L := [some (zrv x0), none]) rfl rfl ?_
    refine zA_aldn rfl rfl rfl ?_
    obtain ⟨p22, i23, e24, c25, H⟩ := zob_e H
    refine zA_gf3 rfl rfl e24 c25 ?_
    refine zA_tr (L := [none, none]) rfl rfl ?_
    cases H
    exact zA_ret rfl (zret_A _)
  · refine zA_brF (c := x1 = 0) rfl rfl rfl c21 ?_
    refine zA_aldn rfl rfl rfl ?_
    obtain ⟨p26, i27, e28, c29, H⟩ := zob_e H
    refine zA_gf3 rfl rfl e28 c29 ?_
    refine zA_go rfl rfl ?_
    refine zA_tr (L := [none, none]) rfl rfl ?_
    cases H
    exact zA_ret rfl (zret_A _)
theorem zmE31 (x0 : zq) (x1 : Int32) : zpad (zPr.2.1 31).1 (zil [zrv x0, zI x1]) = [some (zrv x0), some (zI x1)] := by
  simp only [zil_A, zil_I, zil_F, zil_D, zil_N]
  rfl
def zm19_2 (k11 : zq → Int32 → Int32 → zH → zRs Unit) : Nat → zq → Int32 → Int32 → Int32 → zH → zRs Unit
  | 0, _, _, _, _, _ => none
  | n + 1, x0, x1, x2, x3, h =>
    if (16 : Int32) ≤ x3 then
      k11 x0 x1 x3 h
    else
      if (x2 >>> (x3 &&& 31)) = 0 then
        k11 x0 x1 x3 h
      else
        zlet (x3 + (1 : Int32)) fun x23 =>
        zm19_2 k11 n x0 x1 x2 x23 h
theorem zmS19_2 {k11 : zq → Int32 → Int32 → zH → zRs Unit} (hk11 : ∀ (x0 : zq) (x1 : Int32) (x3 : Int32) (h : zH) (r : Unit ⊕ Nat) (h' : zH), k11 x0 x1 x3 h = some (r, h') → zAt 19 11 [some (zrv x0), some (zI x1), none, some (zI x3)] [] h (zoU r) h') : ∀ (n : Nat) (x0 : zq) (x1 : Int32) (x2 : Int32) (x3 : Int32) (h : zH) (r : Unit ⊕ Nat) (h' : zH), zm19_2 k11 n x0 x1 x2 x3 h = some (r, h') → zAt 19 2 [some (zrv x0), some (zI x1), some (zI x2), some (zI x3)] [] h (zoU r) h' := by
  intro n
  induction n with
  | zero => intro x0 x1 x2 x3 h r h' H; cases H
  | succ n ih =>
    intro x0 x1 x2 x3 h r h' H
    unfold zm19_2 at H
    refine zA_ldn rfl rfl rfl ?_
    refine zA_push rfl rfl zkk33 ?_
    rcases zite_e H with ⟨c21, H⟩ | ⟨c21, H⟩
    · refine zA_brT (c := (16 : Int32) ≤ x3) rfl rfl rfl c21 ?_
      exact zA_tr (L := [some (zrv x0), some (zI x1), none, some (zI x3)]) rfl rfl (hk11 _ _ _ _ _ _ H)
    · refine zA_brF (c := (16 : Int32) ≤ x3) rfl rfl rfl c21 ?_
      refine zA_ldn rfl rfl rfl ?_
      refine zA_ldn rfl rfl rfl ?_
      refine zA_st (st' := [zI (x2 >>> (x3 &&& 31))]) rfl rfl rfl rfl ?_
      rcases zite_e H with ⟨c22, H⟩ | ⟨c22, H⟩
      · refine zA_brT (c := (x2 >>> (x3 &&& 31)) = 0) rfl rfl rfl c22 ?_
        exact zA_tr (L := [some (zrv x0), some (zI x1), none, some (zI x3)]) rfl rfl (hk11 _ _ _ _ _ _ H)
      · refine zA_brF (c := (x2 >>> (x3 &&& 31)) = 0) rfl rfl rfl c22 ?_
        obtain ⟨x23, e24, H⟩ := zlet_e H
        refine zA_inc rfl rfl rfl (e24.trans (congrArg (_ + ·) zkk8)) (zset1 (L' := [some (zrv x0), some (zI x1), some (zI x2), some (zI x23)]) rfl rfl (zpcV rfl rfl)) ?_
        refine zA_go rfl rfl ?_
        exact zA_tr (L := [some (zrv x0), some (zI x1), some (zI x2), some (zI x23)]) rfl rfl (ih _ _ _ _ _ _ _ H)
def zm19_54 (x0 : zq) (x3 : Int32) (s0 : zq) (s1 : Int32) (s2 : Int32) (h : zH) : zRs Unit :=
  zob 7 s0 fun p21 i22 =>
  zlet (zsi h p21 i22 2 (s1 + s2)) fun h25 =>
  zob 7 x0 fun p27 i28 =>
  zri (zr h25 p27 i28 3) x3 h25 fun v38 =>
  zar 1 (zr h25 p27 i28 3) x3 h25 fun p40 i41 j42 =>
  zlet (zsi h25 p40 i41 j42 (v38 + (1 : Int32))) fun h47 =>
  some (.inl (), h47)
theorem zmS19_54 : ∀ (x0 : zq) (x3 : Int32) (s0 : zq) (s1 : Int32) (s2 : Int32) (h : zH) (r : Unit ⊕ Nat) (h' : zH), zm19_54 x0 x3 s0 s1 s2 h = some (r, h') → zAt 19 54 [some (zrv x0), none, none, some (zI x3)] [zI s2, zI s1, zrv s0] h (zoU r) h' := by
  intro x0 x3 s0 s1 s2 h r h' H
  unfold zm19_54 at H
  refine zA_st (st' := [zI (s1 + s2), zrv s0]) rfl rfl rfl rfl ?_
  obtain ⟨p21, i22, e23, c24, H⟩ := zob_e H
  obtain ⟨h25, e26, H⟩ := zlet_e H
  refine zA_pf0 rfl rfl e23 c24 e26 ?_
  refine zA_aldn rfl rfl rfl ?_
  obtain ⟨p27, i28, e29, c30, H⟩ := zob_e H
  refine zA_gf3 rfl rfl e29 c30 ?_
  refine zA_ldn rfl rfl rfl ?_
  refine zA_dup2 rfl rfl rfl (zcat_rv _) ?_
  obtain ⟨p31, i32, j33, v38, e34, c35, c36, e37, e39, H⟩ := zri_e H
  refine zA_ial rfl rfl e34 c35 c36 e37 e39 ?_
  refine zA_push rfl rfl zkk5 ?_
  refine zA_st (st' := [zI (v38 + (1 : Int32)), zI x3, zrv (zr h25 p27 i28 3)]) rfl rfl rfl rfl ?_
  obtain ⟨p40, i41, j42, e43, c44, c45, e46, H⟩ := zar_e H
  obtain ⟨h47, e48, H⟩ := zlet_e H
  refine zA_ias rfl rfl e43 c44 c45 e46 e48 ?_
  cases H
  exact zA_ret rfl rfl
def zm19_38 (x0 : zq) (x1 : Int32) (x3 : Int32) (s0 : zq) (s1 : Int32) (s2 : Int32) (s3 : Int32) (h : zH) : zRs Unit :=
  zar 1 s0 s1 h fun p21 i22 j23 =>
  zlet (zsi h p21 i22 j23 (s2 + s3)) fun h28 =>
  zob 7 x0 fun p30 i31 =>
  zlet (zsi h28 p30 i31 1 ((zi h28 p30 i31 1) + (1 : Int32))) fun h34 =>
  if x1 = 0 then
    zm19_54 x0 x3 x0 (zi h34 p30 i31 2) (0 : Int32) h34
  else
    zm19_54 x0 x3 x0 (zi h34 p30 i31 2) (1 : Int32) h34
theorem zmS19_38 : ∀ (x0 : zq) (x1 : Int32) (x3 : Int32) (s0 : zq) (s1 : Int32) (s2 : Int32) (s3 : Int32) (h : zH) (r : Unit ⊕ Nat) (h' : zH), zm19_38 x0 x1 x3 s0 s1 s2 s3 h = some (r, h') → zAt 19 38 [some (zrv x0), some (zI x1), none, some (zI x3)] [zI s3, zI s2, zI s1, zrv s0] h (zoU r) h' := by
  intro x0 x1 x3 s0 s1 s2 s3 h r h' H
  unfold zm19_38 at H
  refine zA_st (st' := [zI (s2 + s3), zI s1, zrv s0]) rfl rfl rfl rfl ?_
  obtain ⟨p21, i22, j23, e24, c25, c26, e27, H⟩ := zar_e H
  obtain ⟨h28, e29, H⟩ := zlet_e H
  refine zA_ias rfl rfl e24 c25 c26 e27 e29 ?_
  refine zA_aldn rfl rfl rfl ?_
  refine zA_dup rfl rfl (zcat_rv _) ?_
  obtain ⟨p30, i31, e32, c33, H⟩ := zob_e H
  refine zA_gf0 rfl rfl (Or.inl rfl) e32 c33 ?_
  refine zA_push rfl rfl zkk5 ?_
  refine zA_st (st' := [zI ((zi h28 p30 i31 1) + (1 : Int32)), zrv x0]) rfl rfl rfl rfl ?_
  obtain ⟨h34, e35, H⟩ := zlet_e H
  refine zA_pf0 rfl rfl e32 c33 e35 ?_
  refine zA_aldn rfl rfl rfl ?_
  refine zA_dup rfl rfl (zcat_rv _) ?_
  refine zA_gf0 rfl rfl (Or.inl rfl) e32 c33 ?_
  refine zA_ldn rfl rfl rfl ?_
  rcases zite_e H with ⟨c36, H⟩ | ⟨c36, H⟩
  · refine zA_brT (c := x1 = 0) rfl rfl rfl c36 ?_
    refine zA_tr (L := [some (zrv x0), none, none, some (zI x3)]) rfl rfl ?_
    refine zA_push rfl rfl zkk7 ?_
    exact zA_tr (L := [some (zrv x0), none, none, some (zI x3)]) rfl rfl (zmS19_54 _ _ _ _ _ _ _ _ H)
  · refine zA_brF (c := x1 = 0) rfl rfl rfl c36 ?_
    refine zA_push rfl rfl zkk5 ?_
    refine zA_go rfl rfl ?_
    exact zA_tr (L := [some (zrv x0), none, none, some (zI x3)]) rfl rfl (zmS19_54 _ _ _ _ _ _ _ _ H)
def zm19_26 (x0 : zq) (x1 : Int32) (x3 : Int32) (h : zH) : zRs Unit :=
  zob 7 x0 fun p21 i22 =>
  if x1 = 0 then
    zm19_38 x0 x1 x3 (zr h p21 i22 0) (zi h p21 i22 1) (x3 * (2 : Int32)) (0 : Int32) h
  else
    zm19_38 x0 x1 x3 (zr h p21 i22 0) (zi h p21 i22 1) (x3 * (2 : Int32)) (1 : Int32) h
theorem zmS19_26 : ∀ (x0 : zq) (x1 : Int32) (x3 : Int32) (h : zH) (r : Unit ⊕ Nat) (h' : zH), zm19_26 x0 x1 x3 h = some (r, h') → zAt 19 26 [some (zrv x0), some (zI x1), none, some (zI x3)] [] h (zoU r) h' := by
  intro x0 x1 x3 h r h' H
  unfold zm19_26 at H
  refine zA_aldn rfl rfl rfl ?_
  obtain ⟨p21, i22, e23, c24, H⟩ := zob_e H
  refine zA_gf3 rfl rfl e23 c24 ?_
  refine zA_aldn rfl rfl rfl ?_
  refine zA_gf0 rfl rfl (Or.inl rfl) e23 c24 ?_
  refine zA_ldn rfl rfl rfl ?_
  refine zA_push rfl rfl zkk23 ?_
  refine zA_st (st' := [zI (x3 * (2 : Int32)), zI (zi h p21 i22 1), zrv (zr h p21 i22 0)]) rfl rfl rfl rfl ?_
  refine zA_ldn rfl rfl rfl ?_
  rcases zite_e H with ⟨c25, H⟩ | ⟨c25, H⟩
  · refine zA_brT (c := x1 = 0) rfl rfl rfl c25 ?_
    refine zA_push rfl rfl zkk7 ?_
    exact zA_tr (L := [some (zrv x0), some (zI x1), none, some (zI x3)]) rfl rfl (zmS19_38 _ _ _ _ _ _ _ _ _ _ H)
  · refine zA_brF (c := x1 = 0) rfl rfl rfl c25 ?_
    refine zA_push rfl rfl zkk5 ?_
    refine zA_go rfl rfl ?_
    exact zA_tr (L := [some (zrv x0), some (zI x1), none, some (zI x3)]) rfl rfl (zmS19_38 _ _ _ _ _ _ _ _ _ _ H)
def zm19_11 (x0 : zq) (x1 : Int32) (x3 : Int32) (h : zH) : zRs Unit :=
  zob 7 x0 fun p21 i22 =>
  zal (zr h p21 i22 0) fun p25 i26 =>
  if (zi h p21 i22 1) < (nI (zln h p25 i26)) then
    zm19_26 x0 x1 x3 h
  else
    znn (zr h p21 i22 0) fun p30 i31 =>
    zif ((ztg p30 == 1) = true) <|
    if ((zi h p21 i22 1) * (2 : Int32)) < 0 ∨ 100000 < ((zi h p21 i22 1) * (2 : Int32)).toNatClampNeg ∨ ((zi h p21 i22 1) * (2 : Int32)).toNatClampNeg ≤ zln h p30 i31 then none else
    zlet (znwi h 32 ((zi h p21 i22 1) * (2 : Int32)).toNatClampNeg ((zi h p21 i22 1) * (2 : Int32)).toNatClampNeg (fun j => if j < zln h p30 i31 then zi h p30 i31 j else 0)) fun h35 =>
    zlet (zsr h35 p21 i22 0 (some (32, zct h 32))) fun h37 =>
    zm19_26 x0 x1 x3 h37
theorem zmS19_11 : ∀ (x0 : zq) (x1 : Int32) (x3 : Int32) (h : zH) (r : Unit ⊕ Nat) (h' : zH), zm19_11 x0 x1 x3 h = some (r, h') → zAt 19 11 [some (zrv x0), some (zI x1), none, some (zI x3)] [] h (zoU r) h' := by
  intro x0 x1 x3 h r h' H
  unfold zm19_11 at H
  refine zA_aldn rfl rfl rfl ?_
  obtain ⟨p21, i22, e23, c24, H⟩ := zob_e H
  refine zA_gf0 rfl rfl (Or.inl rfl) e23 c24 ?_
  refine zA_aldn rfl rfl rfl ?_
  refine zA_gf3 rfl rfl e23 c24 ?_
  obtain ⟨p25, i26, e27, c28, H⟩ := zal_e H
  refine zA_len rfl rfl e27 c28 ?_
  rcases zite_e H with ⟨c29, H⟩ | ⟨c29, H⟩
  · refine zA_brT (c := (zi h p21 i22 1) < (nI (zln h p25 i26))) rfl rfl rfl c29 ?_
    exact zA_tr (L := [some (zrv x0), some (zI x1), none, some (zI x3)]) rfl rfl (zmS19_26 _ _ _ _ _ _ H)
  · refine zA_brF (c := (zi h p21 i22 1) < (nI (zln h p25 i26))) rfl rfl rfl c29 ?_
    refine zA_aldn rfl rfl rfl ?_
    refine zA_aldn rfl rfl rfl ?_
    refine zA_gf3 rfl rfl e23 c24 ?_
    refine zA_aldn rfl rfl rfl ?_
    refine zA_gf0 rfl rfl (Or.inl rfl) e23 c24 ?_
    refine zA_push rfl rfl zkk23 ?_
    refine zA_st (st' := [zI ((zi h p21 i22 1) * (2 : Int32)), zrv (zr h p21 i22 0), zrv x0]) rfl rfl rfl rfl ?_
    obtain ⟨p30, i31, e32, H⟩ := znn_e H
    obtain ⟨c33, H⟩ := zif_e H
    rcases zite_e H with ⟨_, H⟩ | ⟨c34, H⟩
    · cases H
    obtain ⟨h35, e36, H⟩ := zlet_e H
    refine zA_l5 rfl rfl rfl e32 c33 c34 e36 ?_
    obtain ⟨h37, e38, H⟩ := zlet_e H
    refine zA_pf3 rfl rfl e23 c24 e38 ?_
    exact zA_tr (L := [some (zrv x0), some (zI x1), none, some (zI x3)]) rfl rfl (zmS19_26 _ _ _ _ _ _ H)
-- 19: ReleaseHouse$Sample.add(ZI)V
def zm19 (x0 : zq) (x1 : Int32) (x2 : Int32) (h : zH) : zRs Unit :=
  zm19_2 (zm19_11) zN0 x0 x1 x2 (0 : Int32) h
theorem zmS19 {x0 : zq} {x1 : Int32} {x2 : Int32} {h : zH} {r : Unit ⊕ Nat} {h' : zH} (H : zm19 x0 x1 x2 h = some (r, h')) : zAt 19 0 [some (zrv x0), some (zI x1), some (zI x2), none] [] h (zoU r) h' := by
  unfold zm19 at H
  refine zA_push rfl rfl zkk7 ?_
  refine zA_istn2 rfl rfl rfl (zset1 (L' := [some (zrv x0), some (zI x1), some (zI x2), some (zI (0 : Int32))]) rfl rfl (zpcV rfl rfl)) ?_
  exact zA_tr (L := [some (zrv x0), some (zI x1), some (zI x2), some (zI (0 : Int32))]) rfl rfl (zmS19_2 (zmS19_11) zN0 _ _ _ _ _ _ _ H)
theorem zmE19 (x0 : zq) (x1 : Int32) (x2 : Int32) : zpad (zPr.2.1 19).1 (zil [zrv x0, zI x1, zI x2]) = [some (zrv x0), some (zI x1), some (zI x2), none] := by
  simp only [zil_A, zil_I, zil_F, zil_D, zil_N]
  rfl
-- 20: ReleaseHouse$Sample.isBad(I)Z
def zm20 (x0 : zq) (x1 : Int32) (h : zH) : zRs Int32 :=
  if x1 < 0 then
    some (.inl (0 : Int32), h)
  else
    zob 7 x0 fun p22 i23 =>
    if (zi h p22 i23 1) ≤ x1 then
      some (.inl (0 : Int32), h)
    else
      zri (zr h p22 i23 0) x1 h fun v34 =>
      if (v34 &&& (1 : Int32)) = (1 : Int32) then
        some (.inl (1 : Int32), h)
      else
        some (.inl (0 : Int32), h)
theorem zmS20 {x0 : zq} {x1 : Int32} {h : zH} {r : Int32 ⊕ Nat} {h' : zH} (H : zm20 x0 x1 h = some (r, h')) : zAt 20 0 [some (zrv x0), some (zI x1)] [] h (zoI r) h' := by
  unfold zm20 at H
  refine zA_ldn rfl rfl rfl ?_
  rcases zite_e H with ⟨c21, H⟩ | ⟨c21, H⟩
  · refine zA_brT (c := x1 < 0) rfl rfl rfl c21 ?_
    refine zA_tr (L := [none, none]) rfl rfl ?_
    refine zA_push rfl rfl zkk7 ?_
    cases H
    exact zA_ret rfl (zret_Z (by decide))
  · refine zA_brF (c := x1 < 0) rfl rfl rfl c21 ?_
    refine zA_ldn rfl rfl rfl ?_
    refine zA_aldn rfl rfl rfl ?_
    obtain ⟨p22, i23, e24, c25, H⟩ := zob_e H
    refine zA_gf0 rfl rfl (Or.inl rfl) e24 c25 ?_
    rcases zite_e H with ⟨c26, H⟩ | ⟨c26, H⟩
    · refine zA_brT (c := (zi h p22 i23 1) ≤ x1) rfl rfl rfl c26 ?_
      refine zA_tr (L := [none, none]) rfl rfl ?_
      refine zA_push rfl rfl zkk7 ?_
      cases H
      exact zA_ret rfl (zret_Z (by decide))
    · refine zA_brF (c := (zi h p22 i23 1) ≤ x1) rfl rfl rfl c26 ?_
      refine zA_aldn rfl rfl rfl ?_
      refine zA_gf3 rfl rfl e24 c25 ?_
      refine zA_ldn rfl rfl rfl ?_
      obtain ⟨p27, i28, j29, v34, e30, c31, c32, e33, e35, H⟩ := zri_e H
      refine zA_ial rfl rfl e30 c31 c32 e33 e35 ?_
      refine zA_push rfl rfl zkk5 ?_
      refine zA_st (st' := [zI (v34 &&& (1 : Int32))]) rfl rfl rfl rfl ?_
      refine zA_push rfl rfl zkk5 ?_
      rcases zite_e H with ⟨c36, H⟩ | ⟨c36, H⟩
      · refine zA_brF' (c := (v34 &&& (1 : Int32)) = (1 : Int32)) rfl rfl rfl c36 ?_
        refine zA_push rfl rfl zkk5 ?_
        refine zA_go rfl rfl ?_
        refine zA_tr (L := [none, none]) rfl rfl ?_
        cases H
        exact zA_ret rfl (zret_Z (by decide))
      · refine zA_brT' (c := (v34 &&& (1 : Int32)) = (1 : Int32)) rfl rfl rfl c36 ?_
        refine zA_tr (L := [none, none]) rfl rfl ?_
        refine zA_push rfl rfl zkk7 ?_
        cases H
        exact zA_ret rfl (zret_Z (by decide))
theorem zmE20 (x0 : zq) (x1 : Int32) : zpad (zPr.2.1 20).1 (zil [zrv x0, zI x1]) = [some (zrv x0), some (zI x1)] := by
  simp only [zil_A, zil_I, zil_F, zil_D, zil_N]
  rfl
def zm33_15 (x1 : UInt64) (h : zH) : zRs UInt64 :=
  some (.inl x1, h)
theorem zmS33_15 : ∀ (x1 : UInt64) (h : zH) (r : UInt64 ⊕ Nat) (h' : zH), zm33_15 x1 h = some (r, h') → zAt 33 15 [none, some (zD x1), none, none, none] [] h (zoD r) h' := by
  intro x1 h r h' H
  unfold zm33_15 at H
  refine zA_dldn rfl rfl rfl ?_
  cases H
  exact zA_ret rfl rfl
-- 33: ReleaseHouse$Spot.capitalBehindPair(DI)D
def zm33 (x0 : zq) (x1 : UInt64) (x3 : Int32) (h : zH) : zRs UInt64 :=
  zob 9 x0 fun p21 i22 =>
  zob 7 (zr h p21 i22 5) fun p25 i26 =>
  zb (zm20 (zr h p21 i22 5) x3 h) fun x30 h29 =>
  if 0 ≤ (Op.cmpValue (FP.dcmp x1 (4626322717216342016 : UInt64)) .l) then
    zm33_15 x1 h29
  else
    zob 7 (zr h29 p21 i22 6) fun p32 i33 =>
    zb (zm20 (zr h29 p21 i22 6) x3 h29) fun x37 h36 =>
    if x30 = x37 then
      zm33_15 x1 h36
    else
      if x30 = 0 then
        zif (FP.dmul x1 (4602678819172646912 : UInt64) &&& 0x7fffffffffffffff ≤ 0x7ff0000000000000) <|
        some (.inl (FP.dmul x1 (4602678819172646912 : UInt64)), h36)
      else
        zif (FP.dmul x1 (4609434218613702656 : UInt64) &&& 0x7fffffffffffffff ≤ 0x7ff0000000000000) <|
        some (.inl (FP.dmul x1 (4609434218613702656 : UInt64)), h36)
theorem zmS33 {x0 : zq} {x1 : UInt64} {x3 : Int32} {h : zH} {r : UInt64 ⊕ Nat} {h' : zH} (H : zm33 x0 x1 x3 h = some (r, h')) : zAt 33 0 [some (zrv x0), some (zD x1), none, some (zI x3), none] [] h (zoD r) h' := by
  unfold zm33 at H
  refine zA_aldn rfl rfl rfl ?_
  obtain ⟨p21, i22, e23, c24, H⟩ := zob_e H
  refine zA_gf3 rfl rfl e23 c24 ?_
  refine zA_ldn rfl rfl rfl ?_
  obtain ⟨p25, i26, e27, c28, H⟩ := zob_e H
  rcases zb_e H with ⟨x30, h29, C, H⟩ | ⟨E, h29, C, H⟩
  · refine zA_callV (as := [zrv (zr h p21 i22 5), zI x3]) (st' := []) rfl rfl rfl (zrcv_Q e27 c28) rfl (zmE20 _ _) rfl (zmS20 C) ?_
    refine zA_ist2 rfl rfl rfl (zset1 (L' := [some (zrv x0), some (zD x1), none, some (zI x3), some (zI x30)]) rfl rfl (zpcV rfl rfl)) ?_
    refine zA_dldn rfl rfl rfl ?_
    refine zA_push rfl rfl zkk37 ?_
    refine zA_st (st' := [zI (Op.cmpValue (FP.dcmp x1 (4626322717216342016 : UInt64)) .l)]) rfl rfl rfl rfl ?_
    rcases zite_e H with ⟨c31, H⟩ | ⟨c31, H⟩
    · refine zA_brT (c := 0 ≤ (Op.cmpValue (FP.dcmp x1 (4626322717216342016 : UInt64)) .l)) rfl rfl rfl c31 ?_
      exact zA_tr (L := [none, some (zD x1), none, none, none]) rfl rfl (zmS33_15 _ _ _ _ H)
    · refine zA_brF (c := 0 ≤ (Op.cmpValue (FP.dcmp x1 (4626322717216342016 : UInt64)) .l)) rfl rfl rfl c31 ?_
      refine zA_ld rfl rfl rfl ?_
      refine zA_aldn rfl rfl rfl ?_
      refine zA_gf3 rfl rfl e23 c24 ?_
      refine zA_ldn rfl rfl rfl ?_
      obtain ⟨p32, i33, e34, c35, H⟩ := zob_e H
      rcases zb_e H with ⟨x37, h36, C, H⟩ | ⟨E, h36, C, H⟩
      · refine zA_callV (as := [zrv (zr h29 p21 i22 6), zI x3]) (st' := [zI x30]) rfl rfl rfl (zrcv_Q e34 c35) rfl (zmE20 _ _) rfl (zmS20 C) ?_
        rcases zite_e H with ⟨c38, H⟩ | ⟨c38, H⟩
        · refine zA_brF' (c := x30 = x37) rfl rfl rfl c38 ?_
          exact zA_tr (L := [none, some (zD x1), none, none, none]) rfl rfl (zmS33_15 _ _ _ _ H)
        · refine zA_brT' (c := x30 = x37) rfl rfl rfl c38 ?_
          refine zA_tr (L := [none, some (zD x1), none, none, some (zI x30)]) rfl rfl ?_
          refine zA_ld rfl rfl rfl ?_
          rcases zite_e H with ⟨c39, H⟩ | ⟨c39, H⟩
          · refine zA_brT (c := x30 = 0) rfl rfl rfl c39 ?_
            refine zA_tr (L := [none, some (zD x1), none, none, none]) rfl rfl ?_
            refine zA_dldn rfl rfl rfl ?_
            refine zA_push rfl rfl zkk51 ?_
            obtain ⟨c40, H⟩ := zif_e H
            refine zA_dmul rfl rfl c40 ?_
            refine zA_tr (L := [none, none, none, none, none]) rfl rfl ?_
            cases H
            exact zA_ret rfl rfl
          · refine zA_brF (c := x30 = 0) rfl rfl rfl c39 ?_
            refine zA_dldn rfl rfl rfl ?_
            refine zA_push rfl rfl zkk52 ?_
            obtain ⟨c41, H⟩ := zif_e H
            refine zA_dmul rfl rfl c41 ?_
            refine zA_go rfl rfl ?_
            refine zA_tr (L := [none, none, none, none, none]) rfl rfl ?_
            cases H
            exact zA_ret rfl rfl
      · cases H
        exact zA_callX (as := [zrv (zr h29 p21 i22 6), zI x3]) (st' := [zI x30]) rfl rfl (zrcv_Q e34 c35) rfl (zmE20 _ _) rfl rfl rfl (zmS20 C)
  · cases H
    exact zA_callX (as := [zrv (zr h p21 i22 5), zI x3]) (st' := []) rfl rfl (zrcv_Q e27 c28) rfl (zmE20 _ _) rfl rfl rfl (zmS20 C)
theorem zmE33 (x0 : zq) (x1 : UInt64) (x3 : Int32) : zpad (zPr.2.1 33).1 (zil [zrv x0, zD x1, zI x3]) = [some (zrv x0), some (zD x1), none, some (zI x3), none] := by
  simp only [zil_A, zil_I, zil_F, zil_D, zil_N]
  rfl
def zm32_29 (x4 : zq) (h : zH) : zRs Int32 :=
  zob 7 x4 fun p21 i22 =>
  some (.inl (zi h p21 i22 1), h)
theorem zmS32_29 : ∀ (x4 : zq) (h : zH) (r : Int32 ⊕ Nat) (h' : zH), zm32_29 x4 h = some (r, h') → zAt 32 29 [none, none, none, none, some (zrv x4)] [] h (zoI r) h' := by
  intro x4 h r h' H
  unfold zm32_29 at H
  refine zA_ald rfl rfl rfl ?_
  obtain ⟨p21, i22, e23, c24, H⟩ := zob_e H
  refine zA_gf0 rfl rfl (Or.inl rfl) e23 c24 ?_
  cases H
  exact zA_ret rfl rfl
def zm32_16 (x0 : zq) (x4 : zq) (s0 : Int32) (s1 : zq) (s2 : Int32) (h : zH) : zRs Int32 :=
  zob 9 s1 fun p21 i22 =>
  zb (zm31 s1 s2 h) fun x26 h25 =>
  zob 7 x26 fun p27 i28 =>
  if (zi h25 p27 i28 1) < s0 then
    zm32_29 x4 h25
  else
    zob 9 x0 fun p32 i33 =>
    zob 7 x4 fun p36 i37 =>
    zb (zm33 x0 (zd h25 p32 i33 4) ((zi h25 p36 i37 1) - (1 : Int32)) h25) fun x41 h40 =>
    zlet (zsd h40 p32 i33 4 x41) fun h42 =>
    zm32_29 x4 h42
theorem zmS32_16 : ∀ (x0 : zq) (x4 : zq) (s0 : Int32) (s1 : zq) (s2 : Int32) (h : zH) (r : Int32 ⊕ Nat) (h' : zH), zm32_16 x0 x4 s0 s1 s2 h = some (r, h') → zAt 32 16 [some (zrv x0), none, none, none, some (zrv x4)] [zI s2, zrv s1, zI s0] h (zoI r) h' := by
  intro x0 x4 s0 s1 s2 h r h' H
  unfold zm32_16 at H
  obtain ⟨p21, i22, e23, c24, H⟩ := zob_e H
  rcases zb_e H with ⟨x26, h25, C, H⟩ | ⟨E, h25, C, H⟩
  · refine zA_callV (as := [zrv s1, zI s2]) (st' := [zI s0]) rfl rfl rfl (zrcv_Q e23 c24) rfl (zmE31 _ _) rfl (zmS31 C) ?_
    obtain ⟨p27, i28, e29, c30, H⟩ := zob_e H
    refine zA_gf0 rfl rfl (Or.inl rfl) e29 c30 ?_
    rcases zite_e H with ⟨c31, H⟩ | ⟨c31, H⟩
    · refine zA_brT (c := (zi h25 p27 i28 1) < s0) rfl rfl rfl c31 ?_
      exact zA_tr (L := [none, none, none, none, some (zrv x4)]) rfl rfl (zmS32_29 _ _ _ _ H)
    · refine zA_brF (c := (zi h25 p27 i28 1) < s0) rfl rfl rfl c31 ?_
      refine zA_aldn rfl rfl rfl ?_
      refine zA_aldn rfl rfl rfl ?_
      refine zA_aldn rfl rfl rfl ?_
      obtain ⟨p32, i33, e34, c35, H⟩ := zob_e H
      refine zA_gf2 rfl rfl e34 c35 ?_
      refine zA_ald rfl rfl rfl ?_
      obtain ⟨p36, i37, e38, c39, H⟩ := zob_e H
      refine zA_gf0 rfl rfl (Or.inl rfl) e38 c39 ?_
      refine zA_push rfl rfl zkk5 ?_
      refine zA_st (st' := [zI ((zi h25 p36 i37 1) - (1 : Int32)), zD (zd h25 p32 i33 4), zrv x0, zrv x0]) rfl rfl rfl rfl ?_
      rcases zb_e H with ⟨x41, h40, C, H⟩ | ⟨E, h40, C, H⟩
      · refine zA_callV (as := [zrv x0, zD (zd h25 p32 i33 4), zI ((zi h25 p36 i37 1) - (1 : Int32))]) (st' := [zrv x0]) rfl rfl rfl (zrcv_Q e34 c35) rfl (zmE33 _ _ _) rfl (zmS33 C) ?_
        obtain ⟨h42, e43, H⟩ := zlet_e H
        refine zA_pf2 rfl rfl e34 c35 e43 ?_
        exact zA_tr (L := [none, none, none, none, some (zrv x4)]) rfl rfl (zmS32_29 _ _ _ _ H)
      · cases H
        exact zA_callX (as := [zrv x0, zD (zd h25 p32 i33 4), zI ((zi h25 p36 i37 1) - (1 : Int32))]) (st' := [zrv x0]) rfl rfl (zrcv_Q e34 c35) rfl (zmE33 _ _ _) rfl rfl rfl (zmS33 C)
  · cases H
    exact zA_callX (as := [zrv s1, zI s2]) (st' := [zI s0]) rfl rfl (zrcv_Q e23 c24) rfl (zmE31 _ _) rfl rfl rfl (zmS31 C)
-- 32: ReleaseHouse$Spot.takeMeasure(ZZI)I
def zm32 (x0 : zq) (x1 : Int32) (x2 : Int32) (x3 : Int32) (h : zH) : zRs Int32 :=
  zob 9 x0 fun p21 i22 =>
  zb (zm31 x0 x1 h) fun x26 h25 =>
  zob 7 x26 fun p27 i28 =>
  zb (zm19 x26 x2 x3 h25) fun _ h31 =>
  if x1 = 0 then
    zm32_16 x0 x26 (zi h31 p27 i28 1) x0 (1 : Int32) h31
  else
    zm32_16 x0 x26 (zi h31 p27 i28 1) x0 (0 : Int32) h31
theorem zmS32 {x0 : zq} {x1 : Int32} {x2 : Int32} {x3 : Int32} {h : zH} {r : Int32 ⊕ Nat} {h' : zH} (H : zm32 x0 x1 x2 x3 h = some (r, h')) : zAt 32 0 [some (zrv x0), some (zI x1), some (zI x2), some (zI x3), none] [] h (zoI r) h' := by
  unfold zm32 at H
  refine zA_aldn rfl rfl rfl ?_
  refine zA_ldn rfl rfl rfl ?_
  obtain ⟨p21, i22, e23, c24, H⟩ := zob_e H
  rcases zb_e H with ⟨x26, h25, C, H⟩ | ⟨E, h25, C, H⟩
  · refine zA_callV (as := [zrv x0, zI x1]) (st' := []) rfl rfl rfl (zrcv_Q e23 c24) rfl (zmE31 _ _) rfl (zmS31 C) ?_
    refine zA_ast2 rfl rfl rfl (zset1 (L' := [some (zrv x0), some (zI x1), some (zI x2), some (zI x3), some (zrv x26)]) (zcat_rv _) rfl (zpcV rfl rfl)) ?_
    refine zA_ald rfl rfl rfl ?_
    refine zA_ldn rfl rfl rfl ?_
    refine zA_ldn rfl rfl rfl ?_
    obtain ⟨p27, i28, e29, c30, H⟩ := zob_e H
    rcases zb_e H with ⟨u33, h31, C, H⟩ | ⟨E, h31, C, H⟩
    · refine zA_callU (as := [zrv x26, zI x2, zI x3]) (st' := []) rfl rfl rfl (zrcv_Q e29 c30) rfl (zmE19 _ _ _) rfl (zmS19 C) ?_
      refine zA_ald rfl rfl rfl ?_
      refine zA_gf0 rfl rfl (Or.inl rfl) e29 c30 ?_
      refine zA_aldn rfl rfl rfl ?_
      refine zA_ldn rfl rfl rfl ?_
      rcases zite_e H with ⟨c32, H⟩ | ⟨c32, H⟩
      · refine zA_brF' (c := x1 = 0) rfl rfl rfl c32 ?_
        refine zA_push rfl rfl zkk5 ?_
        refine zA_go rfl rfl ?_
        exact zA_tr (L := [some (zrv x0), none, none, none, some (zrv x26)]) rfl rfl (zmS32_16 _ _ _ _ _ _ _ _ H)
      · refine zA_brT' (c := x1 = 0) rfl rfl rfl c32 ?_
        refine zA_tr (L := [some (zrv x0), none, none, none, some (zrv x26)]) rfl rfl ?_
        refine zA_push rfl rfl zkk7 ?_
        exact zA_tr (L := [some (zrv x0), none, none, none, some (zrv x26)]) rfl rfl (zmS32_16 _ _ _ _ _ _ _ _ H)
    · cases H
      exact zA_callX (as := [zrv x26, zI x2, zI x3]) (st' := []) rfl rfl (zrcv_Q e29 c30) rfl (zmE19 _ _ _) rfl rfl rfl (zmS19 C)
  · cases H
    exact zA_callX (as := [zrv x0, zI x1]) (st' := []) rfl rfl (zrcv_Q e23 c24) rfl (zmE31 _ _) rfl rfl rfl (zmS31 C)
theorem zmE32 (x0 : zq) (x1 : Int32) (x2 : Int32) (x3 : Int32) : zpad (zPr.2.1 32).1 (zil [zrv x0, zI x1, zI x2, zI x3]) = [some (zrv x0), some (zI x1), some (zI x2), some (zI x3), none] := by
  simp only [zil_A, zil_I, zil_F, zil_D, zil_N]
  rfl
-- 101: ReleaseHouse.measure(IIZZI)I
def zm101 (x0 : zq) (x1 : Int32) (x2 : Int32) (x3 : Int32) (x4 : Int32) (x5 : Int32) (h : zH) : zRs Int32 :=
  zob 11 x0 fun p21 i22 =>
  zb (zm132 x0 x1 x2 h) fun x26 h25 =>
  zb (zm131 x5 (0 : Int32) (60000 : Int32) h25) fun _ h27 =>
  zob 9 x26 fun p28 i29 =>
  if (zr h27 p28 i29 1) = none then
    some (.inr 1, zro h27 1 6)
  else
    if (zr h27 p28 i29 0) = none then
      some (.inr 1, zro h27 1 6)
    else
      if (zi h27 p21 i22 16) < (600 : Int32) then
        zlet (zsi h27 p21 i22 16 ((zi h27 p21 i22 16) + (1 : Int32))) fun h35 =>
        zb (zm32 x26 x3 x4 x5 h35) fun x38 h37 =>
        some (.inl x38, h37)
      else
        some (.inr 1, zro h27 1 6)
theorem zmS101 {x0 : zq} {x1 : Int32} {x2 : Int32} {x3 : Int32} {x4 : Int32} {x5 : Int32} {h : zH} {r : Int32 ⊕ Nat} {h' : zH} (H : zm101 x0 x1 x2 x3 x4 x5 h = some (r, h')) : zAt 101 0 [some (zrv x0), some (zI x1), some (zI x2), some (zI x3), some (zI x4), some (zI x5), none] [] h (zoI r) h' := by
  unfold zm101 at H
  refine zA_aldn rfl rfl rfl ?_
  refine zA_ldn rfl rfl rfl ?_
  refine zA_ldn rfl rfl rfl ?_
  obtain ⟨p21, i22, e23, c24, H⟩ := zob_e H
  rcases zb_e H with ⟨x26, h25, C, H⟩ | ⟨E, h25, C, H⟩
  · refine zA_callV (as := [zrv x0, zI x1, zI x2]) (st' := []) rfl rfl rfl (zrcv_Q e23 c24) rfl (zmE132 _ _ _) rfl (zmS132 C) ?_
    refine zA_ast2 rfl rfl rfl (zset1 (L' := [some (zrv x0), some (zI x1), some (zI x2), some (zI x3), some (zI x4), some (zI x5), some (zrv x26)]) (zcat_rv _) rfl (zpcV rfl rfl)) ?_
    refine zA_ld rfl rfl rfl ?_
    refine zA_push rfl rfl zkk7 ?_
    refine zA_push rfl rfl zkk53 ?_
    rcases zb_e H with ⟨u39, h27, C, H⟩ | ⟨E, h27, C, H⟩
    · refine zA_callU (as := [zI x5, zI (0 : Int32), zI (60000 : Int32)]) (st' := []) rfl rfl rfl rfl rfl (zmE131 _ _ _) rfl (zmS131 C) ?_
      refine zA_ald rfl rfl rfl ?_
      obtain ⟨p28, i29, e30, c31, H⟩ := zob_e H
      refine zA_gf3 rfl rfl e30 c31 ?_
      rcases zite_e H with ⟨c32, H⟩ | ⟨c32, H⟩
      · refine zA_brT (c := (zr h27 p28 i29 1) = none) rfl rfl zIf_null c32 ?_
        refine zA_tr (L := [none, none, none, none, none, none, none]) rfl rfl ?_
        cases H
        exact zA_thr rfl rfl
      · refine zA_brF (c := (zr h27 p28 i29 1) = none) rfl rfl zIf_null c32 ?_
        refine zA_ald rfl rfl rfl ?_
        refine zA_gf3 rfl rfl e30 c31 ?_
        rcases zite_e H with ⟨c33, H⟩ | ⟨c33, H⟩
        · refine zA_brT (c := (zr h27 p28 i29 0) = none) rfl rfl zIf_null c33 ?_
          refine zA_tr (L := [none, none, none, none, none, none, none]) rfl rfl ?_
          cases H
          exact zA_thr rfl rfl
        · refine zA_brF (c := (zr h27 p28 i29 0) = none) rfl rfl zIf_null c33 ?_
          refine zA_aldn rfl rfl rfl ?_
          refine zA_gf0 rfl rfl (Or.inl rfl) e23 c24 ?_
          refine zA_push rfl rfl zkk41 ?_
          rcases zite_e H with ⟨c34, H⟩ | ⟨c34, H⟩
          · refine zA_brT (c := (zi h27 p21 i22 16) < (600 : Int32)) rfl rfl rfl c34 ?_
            refine zA_tr (L := [some (zrv x0), none, none, some (zI x3), some (zI x4), some (zI x5), some (zrv x26)]) rfl rfl ?_
            refine zA_aldn rfl rfl rfl ?_
            refine zA_dup rfl rfl (zcat_rv _) ?_
            refine zA_gf0 rfl rfl (Or.inl rfl) e23 c24 ?_
            refine zA_push rfl rfl zkk5 ?_
            refine zA_st (st' := [zI ((zi h27 p21 i22 16) + (1 : Int32)), zrv x0]) rfl rfl rfl rfl ?_
            obtain ⟨h35, e36, H⟩ := zlet_e H
            refine zA_pf0 rfl rfl e23 c24 e36 ?_
            refine zA_ald rfl rfl rfl ?_
            refine zA_ldn rfl rfl rfl ?_
            refine zA_ld rfl rfl rfl ?_
            refine zA_ld rfl rfl rfl ?_
            rcases zb_e H with ⟨x38, h37, C, H⟩ | ⟨E, h37, C, H⟩
            · refine zA_callV (as := [zrv x26, zI x3, zI x4, zI x5]) (st' := []) rfl rfl rfl (zrcv_Q e30 c31) rfl (zmE32 _ _ _ _) rfl (zmS32 C) ?_
              cases H
              exact zA_ret rfl rfl
            · cases H
              exact zA_callX (as := [zrv x26, zI x3, zI x4, zI x5]) (st' := []) rfl rfl (zrcv_Q e30 c31) rfl (zmE32 _ _ _ _) rfl rfl rfl (zmS32 C)
          · refine zA_brF (c := (zi h27 p21 i22 16) < (600 : Int32)) rfl rfl rfl c34 ?_
            refine zA_tr (L := [none, none, none, none, none, none, none]) rfl rfl ?_
            cases H
            exact zA_thr rfl rfl
    · cases H
      exact zA_callX (as := [zI x5, zI (0 : Int32), zI (60000 : Int32)]) (st' := []) rfl rfl rfl rfl (zmE131 _ _ _) rfl rfl rfl (zmS131 C)
  · cases H
    exact zA_callX (as := [zrv x0, zI x1, zI x2]) (st' := []) rfl rfl (zrcv_Q e23 c24) rfl (zmE132 _ _ _) rfl rfl rfl (zmS132 C)
theorem zmE101 (x0 : zq) (x1 : Int32) (x2 : Int32) (x3 : Int32) (x4 : Int32) (x5 : Int32) : zpad (zPr.2.1 101).1 (zil [zrv x0, zI x1, zI x2, zI x3, zI x4, zI x5]) = [some (zrv x0), some (zI x1), some (zI x2), some (zI x3), some (zI x4), some (zI x5), none] := by
  simp only [zil_A, zil_I, zil_F, zil_D, zil_N]
  rfl
-- 269: ReleaseHouseLaw.measure(LReleaseHouse;IIZZI[J)I
def zm269 (x0 : zq) (x1 : Int32) (x2 : Int32) (x3 : Int32) (x4 : Int32) (x5 : Int32) (x6 : zq) (h : zH) : zRs Int32 :=
  zob 11 x0 fun p21 i22 =>
  zbH [(0, 11, 0, 1), (0, 11, 1, 2)] 8 (zm101 x0 x1 x2 x3 x4 x5 h) fun x26 h25 =>
  zar 3 x6 (0 : Int32) h25 fun p27 i28 j29 =>
  zlet (zsl h25 p27 i28 j29 (x26.toInt64)) fun h34 =>
  some (.inl (0 : Int32), h34)
theorem zmS269 {x0 : zq} {x1 : Int32} {x2 : Int32} {x3 : Int32} {x4 : Int32} {x5 : Int32} {x6 : zq} {h : zH} {r : Int32 ⊕ Nat} {h' : zH} (H : zm269 x0 x1 x2 x3 x4 x5 x6 h = some (r, h')) : zAt 269 0 [some (zrv x0), some (zI x1), some (zI x2), some (zI x3), some (zI x4), some (zI x5), some (zrv x6), none] [] h (zoI r) h' := by
  unfold zm269 at H
  refine zA_ald rfl rfl rfl ?_
  refine zA_push rfl rfl zkk7 ?_
  refine zA_aldn rfl rfl rfl ?_
  refine zA_ldn rfl rfl rfl ?_
  refine zA_ldn rfl rfl rfl ?_
  refine zA_ldn rfl rfl rfl ?_
  refine zA_ld rfl rfl rfl ?_
  refine zA_ld rfl rfl rfl ?_
  obtain ⟨p21, i22, e23, c24, H⟩ := zob_e H
  rcases zbH_e H with ⟨x26, h25, C, H⟩ | ⟨E, h25, c36, C, hc, H⟩
  · refine zA_callV (as := [zrv x0, zI x1, zI x2, zI x3, zI x4, zI x5]) (st' := [zI (0 : Int32), zrv x6]) rfl rfl rfl (zrcv_Q e23 c24) rfl (zmE101 _ _ _ _ _ _) rfl (zmS101 C) ?_
    refine zA_st (st' := [zJ (x26.toInt64), zI (0 : Int32), zrv x6]) rfl rfl rfl rfl ?_
    obtain ⟨p27, i28, j29, e30, c31, c32, e33, H⟩ := zar_e H
    obtain ⟨h34, e35, H⟩ := zlet_e H
    refine zA_las rfl rfl e30 c31 c32 e33 e35 ?_
    refine zA_go rfl rfl ?_
    refine zA_tr (L := [none, none, none, none, none, none, none, none]) rfl rfl ?_
    refine zA_push rfl rfl zkk7 ?_
    cases H
    exact zA_ret rfl rfl
  · cases H
    exact zA_callH (as := [zrv x0, zI x1, zI x2, zI x3, zI x4, zI x5]) (st' := [zI (0 : Int32), zrv x6]) rfl rfl (zrcv_Q e23 c24) rfl (zmE101 _ _ _ _ _ _) rfl rfl rfl (List.cons_ne_nil _ _) hc (zmS101 C)
theorem zmE269 (x0 : zq) (x1 : Int32) (x2 : Int32) (x3 : Int32) (x4 : Int32) (x5 : Int32) (x6 : zq) : zpad (zPr.2.1 269).1 (zil [zrv x0, zI x1, zI x2, zI x3, zI x4, zI x5, zrv x6]) = [some (zrv x0), some (zI x1), some (zI x2), some (zI x3), some (zI x4), some (zI x5), some (zrv x6), none] := by
  simp only [zil_A, zil_I, zil_F, zil_D, zil_N]
  rfl
def zm209_61 (x0 : zq) (x4 : Int32) (x5 : Int32) (s0 : Int32) (s1 : Int32) (h : zH) : zRs Int32 :=
  zlet (s0 + s1) fun x21 =>
  zob 12 x0 fun p23 i24 =>
  zri (zr h p23 i24 47) x21 h fun v34 =>
  zar 2 (zr h p23 i24 48) (((600 : Int32) * x21) + v34) h fun p36 i37 j38 =>
  zif (x4 = 0 ∨ x4 = 1) <|
  zlet (zsi h p36 i37 j38 x4) fun h43 =>
  zri (zr h43 p23 i24 47) x21 h43 fun v53 =>
  zar 1 (zr h43 p23 i24 49) (((600 : Int32) * x21) + v53) h43 fun p55 i56 j57 =>
  zlet (zsi h43 p55 i56 j57 x5) fun h62 =>
  zri (zr h62 p23 i24 47) x21 h62 fun v71 =>
  zar 1 (zr h62 p23 i24 47) x21 h62 fun p73 i74 j75 =>
  zlet (zsi h62 p73 i74 j75 (v71 + (1 : Int32))) fun h80 =>
  zlet (zsi h80 p23 i24 46 ((zi h80 p23 i24 46) + (1 : Int32))) fun h82 =>
  zri (zr h82 p23 i24 47) x21 h82 fun v91 =>
  some (.inl v91, h82)
theorem zmS209_61 : ∀ (x0 : zq) (x4 : Int32) (x5 : Int32) (s0 : Int32) (s1 : Int32) (h : zH) (r : Int32 ⊕ Nat) (h' : zH), zm209_61 x0 x4 x5 s0 s1 h = some (r, h') → zAt 209 61 [some (zrv x0), none, none, none, some (zI x4), some (zI x5), none, none] [zI s1, zI s0] h (zoI r) h' := by
  intro x0 x4 x5 s0 s1 h r h' H
  unfold zm209_61 at H
  refine zA_st (st' := [zI (s0 + s1)]) rfl rfl rfl rfl ?_
  obtain ⟨x21, e22, H⟩ := zlet_e H
  refine zA_ist2 rfl rfl e22 (zset1 (L' := [some (zrv x0), none, none, none, some (zI x4), some (zI x5), none, some (zI x21)]) rfl rfl (zpcN rfl)) ?_
  refine zA_aldn rfl rfl rfl ?_
  obtain ⟨p23, i24, e25, c26, H⟩ := zob_e H
  refine zA_gf3 rfl rfl e25 c26 ?_
  refine zA_push rfl rfl zkk41 ?_
  refine zA_ld rfl rfl rfl ?_
  refine zA_st (st' := [zI ((600 : Int32) * x21), zrv (zr h p23 i24 48)]) rfl rfl rfl rfl ?_
  refine zA_aldn rfl rfl rfl ?_
  refine zA_gf3 rfl rfl e25 c26 ?_
  refine zA_ld rfl rfl rfl ?_
  obtain ⟨p27, i28, j29, v34, e30, c31, c32, e33, e35, H⟩ := zri_e H
  refine zA_ial rfl rfl e30 c31 c32 e33 e35 ?_
  refine zA_st (st' := [zI (((600 : Int32) * x21) + v34), zrv (zr h p23 i24 48)]) rfl rfl rfl rfl ?_
  refine zA_ld rfl rfl rfl ?_
  obtain ⟨p36, i37, j38, e39, c40, c41, e42, H⟩ := zar_e H
  obtain ⟨c45, H⟩ := zif_e H
  obtain ⟨h43, e44, H⟩ := zlet_e H
  refine zA_bas rfl rfl e39 c40 c41 e42 c45 e44 ?_
  refine zA_aldn rfl rfl rfl ?_
  refine zA_gf3 rfl rfl e25 c26 ?_
  refine zA_push rfl rfl zkk41 ?_
  refine zA_ld rfl rfl rfl ?_
  refine zA_st (st' := [zI ((600 : Int32) * x21), zrv (zr h43 p23 i24 49)]) rfl rfl rfl rfl ?_
  refine zA_aldn rfl rfl rfl ?_
  refine zA_gf3 rfl rfl e25 c26 ?_
  refine zA_ld rfl rfl rfl ?_
  obtain ⟨p46, i47, j48, v53, e49, c50, c51, e52, e54, H⟩ := zri_e H
  refine zA_ial rfl rfl e49 c50 c51 e52 e54 ?_
  refine zA_st (st' := [zI (((600 : Int32) * x21) + v53), zrv (zr h43 p23 i24 49)]) rfl rfl rfl rfl ?_
  refine zA_ld rfl rfl rfl ?_
  obtain ⟨p55, i56, j57, e58, c59, c60, e61, H⟩ := zar_e H
  obtain ⟨h62, e63, H⟩ := zlet_e H
  refine zA_ias rfl rfl e58 c59 c60 e61 e63 ?_
  refine zA_aldn rfl rfl rfl ?_
  refine zA_gf3 rfl rfl e25 c26 ?_
  refine zA_ld rfl rfl rfl ?_
  refine zA_dup2 rfl rfl rfl (zcat_rv _) ?_
  obtain ⟨p64, i65, j66, v71, e67, c68, c69, e70, e72, H⟩ := zri_e H
  refine zA_ial rfl rfl e67 c68 c69 e70 e72 ?_
  refine zA_push rfl rfl zkk5 ?_
  refine zA_st (st' := [zI (v71 + (1 : Int32)), zI x21, zrv (zr h62 p23 i24 47)]) rfl rfl rfl rfl ?_
  obtain ⟨p73, i74, j75, e76, c77, c78, e79, H⟩ := zar_e H
  obtain ⟨h80, e81, H⟩ := zlet_e H
  refine zA_ias rfl rfl e76 c77 c78 e79 e81 ?_
  refine zA_aldn rfl rfl rfl ?_
  refine zA_dup rfl rfl (zcat_rv _) ?_
  refine zA_gf0 rfl rfl (Or.inl rfl) e25 c26 ?_
  refine zA_push rfl rfl zkk5 ?_
  refine zA_st (st' := [zI ((zi h80 p23 i24 46) + (1 : Int32)), zrv x0]) rfl rfl rfl rfl ?_
  obtain ⟨h82, e83, H⟩ := zlet_e H
  refine zA_pf0 rfl rfl e25 c26 e83 ?_
  refine zA_aldn rfl rfl rfl ?_
  refine zA_gf3 rfl rfl e25 c26 ?_
  refine zA_ld rfl rfl rfl ?_
  obtain ⟨p84, i85, j86, v91, e87, c88, c89, e90, e92, H⟩ := zri_e H
  refine zA_ial rfl rfl e87 c88 c89 e90 e92 ?_
  cases H
  exact zA_ret rfl rfl
def zm209_47 (x0 : zq) (x3 : Int32) (x4 : Int32) (x5 : Int32) (x6 : Int32) (s0 : zq) (s1 : Int32) (h : zH) : zRs Int32 :=
  zob 12 s0 fun p21 i22 =>
  zlet (zsi h p21 i22 0 s1) fun h25 =>
  zob 12 x0 fun p27 i28 =>
  if (zi h25 p27 i28 0) ≤ 0 then
    if x3 = 0 then
      zm209_61 x0 x4 x5 ((2 : Int32) * x6) (0 : Int32) h25
    else
      zm209_61 x0 x4 x5 ((2 : Int32) * x6) (1 : Int32) h25
  else
    some (.inl (0 : Int32), h25)
theorem zmS209_47 : ∀ (x0 : zq) (x3 : Int32) (x4 : Int32) (x5 : Int32) (x6 : Int32) (s0 : zq) (s1 : Int32) (h : zH) (r : Int32 ⊕ Nat) (h' : zH), zm209_47 x0 x3 x4 x5 x6 s0 s1 h = some (r, h') → zAt 209 47 [some (zrv x0), none, none, some (zI x3), some (zI x4), some (zI x5), some (zI x6), none] [zI s1, zrv s0] h (zoI r) h' := by
  intro x0 x3 x4 x5 x6 s0 s1 h r h' H
  unfold zm209_47 at H
  obtain ⟨p21, i22, e23, c24, H⟩ := zob_e H
  obtain ⟨h25, e26, H⟩ := zlet_e H
  refine zA_pf0 rfl rfl e23 c24 e26 ?_
  refine zA_aldn rfl rfl rfl ?_
  obtain ⟨p27, i28, e29, c30, H⟩ := zob_e H
  refine zA_gf0 rfl rfl (Or.inl rfl) e29 c30 ?_
  rcases zite_e H with ⟨c31, H⟩ | ⟨c31, H⟩
  · refine zA_brT (c := (zi h25 p27 i28 0) ≤ 0) rfl rfl rfl c31 ?_
    refine zA_push rfl rfl zkk23 ?_
    refine zA_ld rfl rfl rfl ?_
    refine zA_st (st' := [zI ((2 : Int32) * x6)]) rfl rfl rfl rfl ?_
    refine zA_ldn rfl rfl rfl ?_
    rcases zite_e H with ⟨c32, H⟩ | ⟨c32, H⟩
    · refine zA_brT (c := x3 = 0) rfl rfl rfl c32 ?_
      refine zA_tr (L := [some (zrv x0), none, none, none, some (zI x4), some (zI x5), none, none]) rfl rfl ?_
      refine zA_push rfl rfl zkk7 ?_
      exact zA_tr (L := [some (zrv x0), none, none, none, some (zI x4), some (zI x5), none, none]) rfl rfl (zmS209_61 _ _ _ _ _ _ _ _ H)
    · refine zA_brF (c := x3 = 0) rfl rfl rfl c32 ?_
      refine zA_push rfl rfl zkk5 ?_
      refine zA_go rfl rfl ?_
      exact zA_tr (L := [some (zrv x0), none, none, none, some (zI x4), some (zI x5), none, none]) rfl rfl (zmS209_61 _ _ _ _ _ _ _ _ H)
  · refine zA_brF (c := (zi h25 p27 i28 0) ≤ 0) rfl rfl rfl c31 ?_
    refine zA_push rfl rfl zkk7 ?_
    cases H
    exact zA_ret rfl rfl
def zm209_15 (x0 : zq) (x1 : Int32) (x2 : Int32) (x3 : Int32) (x4 : Int32) (x5 : Int32) (s0 : zq) (s1 : Int32) (h : zH) : zRs Int32 :=
  zob 12 s0 fun p21 i22 =>
  zlet (zsi h p21 i22 0 s1) fun h25 =>
  zob 12 x0 fun p27 i28 =>
  if (zi h25 p27 i28 0) ≤ 0 then
    zlet (((3 : Int32) * x1) + x2) fun x32 =>
    zri (zr h25 p27 i28 13) x32 h25 fun v41 =>
    if v41 = (-1 : Int32) then
      zm209_47 x0 x3 x4 x5 x32 x0 (2 : Int32) h25
    else
      zri (zr h25 p27 i28 12) x32 h25 fun v51 =>
      if v51 = (-1 : Int32) then
        zm209_47 x0 x3 x4 x5 x32 x0 (2 : Int32) h25
      else
        if (zi h25 p27 i28 46) = (600 : Int32) then
          zm209_47 x0 x3 x4 x5 x32 x0 (2 : Int32) h25
        else
          zm209_47 x0 x3 x4 x5 x32 x0 (0 : Int32) h25
  else
    some (.inl (0 : Int32), h25)
theorem zmS209_15 : ∀ (x0 : zq) (x1 : Int32) (x2 : Int32) (x3 : Int32) (x4 : Int32) (x5 : Int32) (s0 : zq) (s1 : Int32) (h : zH) (r : Int32 ⊕ Nat) (h' : zH), zm209_15 x0 x1 x2 x3 x4 x5 s0 s1 h = some (r, h') → zAt 209 15 [some (zrv x0), some (zI x1), some (zI x2), some (zI x3), some (zI x4), some (zI x5), none, none] [zI s1, zrv s0] h (zoI r) h' := by
  intro x0 x1 x2 x3 x4 x5 s0 s1 h r h' H
  unfold zm209_15 at H
  obtain ⟨p21, i22, e23, c24, H⟩ := zob_e H
  obtain ⟨h25, e26, H⟩ := zlet_e H
  refine zA_pf0 rfl rfl e23 c24 e26 ?_
  refine zA_aldn rfl rfl rfl ?_
  obtain ⟨p27, i28, e29, c30, H⟩ := zob_e H
  refine zA_gf0 rfl rfl (Or.inl rfl) e29 c30 ?_
  rcases zite_e H with ⟨c31, H⟩ | ⟨c31, H⟩
  · refine zA_brT (c := (zi h25 p27 i28 0) ≤ 0) rfl rfl rfl c31 ?_
    refine zA_push rfl rfl zkk3 ?_
    refine zA_ldn rfl rfl rfl ?_
    refine zA_st (st' := [zI ((3 : Int32) * x1)]) rfl rfl rfl rfl ?_
    refine zA_ldn rfl rfl rfl ?_
    refine zA_st (st' := [zI (((3 : Int32) * x1) + x2)]) rfl rfl rfl rfl ?_
    obtain ⟨x32, e33, H⟩ := zlet_e H
    refine zA_ist2 rfl rfl e33 (zset1 (L' := [some (zrv x0), some (zI x1), some (zI x2), some (zI x3), some (zI x4), some (zI x5), some (zI x32), none]) rfl rfl (zpcV rfl rfl)) ?_
    refine zA_aldn rfl rfl rfl ?_
    refine zA_aldn rfl rfl rfl ?_
    refine zA_gf3 rfl rfl e29 c30 ?_
    refine zA_ld rfl rfl rfl ?_
    obtain ⟨p34, i35, j36, v41, e37, c38, c39, e40, e42, H⟩ := zri_e H
    refine zA_ial rfl rfl e37 c38 c39 e40 e42 ?_
    refine zA_push rfl rfl zkk6 ?_
    rcases zite_e H with ⟨c43, H⟩ | ⟨c43, H⟩
    · refine zA_brT (c := v41 = (-1 : Int32)) rfl rfl rfl c43 ?_
      refine zA_tr (L := [some (zrv x0), none, none, some (zI x3), some (zI x4), some (zI x5), some (zI x32), none]) rfl rfl ?_
      refine zA_push rfl rfl zkk23 ?_
      refine zA_go rfl rfl ?_
      exact zA_tr (L := [some (zrv x0), none, none, some (zI x3), some (zI x4), some (zI x5), some (zI x32), none]) rfl rfl (zmS209_47 _ _ _ _ _ _ _ _ _ _ H)
    · refine zA_brF (c := v41 = (-1 : Int32)) rfl rfl rfl c43 ?_
      refine zA_aldn rfl rfl rfl ?_
      refine zA_gf3 rfl rfl e29 c30 ?_
      refine zA_ld rfl rfl rfl ?_
      obtain ⟨p44, i45, j46, v51, e47, c48, c49, e50, e52, H⟩ := zri_e H
      refine zA_ial rfl rfl e47 c48 c49 e50 e52 ?_
      refine zA_push rfl rfl zkk6 ?_
      rcases zite_e H with ⟨c53, H⟩ | ⟨c53, H⟩
      · refine zA_brT (c := v51 = (-1 : Int32)) rfl rfl rfl c53 ?_
        refine zA_tr (L := [some (zrv x0), none, none, some (zI x3), some (zI x4), some (zI x5), some (zI x32), none]) rfl rfl ?_
        refine zA_push rfl rfl zkk23 ?_
        refine zA_go rfl rfl ?_
        exact zA_tr (L := [some (zrv x0), none, none, some (zI x3), some (zI x4), some (zI x5), some (zI x32), none]) rfl rfl (zmS209_47 _ _ _ _ _ _ _ _ _ _ H)
      · refine zA_brF (c := v51 = (-1 : Int32)) rfl rfl rfl c53 ?_
        refine zA_aldn rfl rfl rfl ?_
        refine zA_gf0 rfl rfl (Or.inl rfl) e29 c30 ?_
        refine zA_push rfl rfl zkk41 ?_
        rcases zite_e H with ⟨c54, H⟩ | ⟨c54, H⟩
        · refine zA_brF' (c := (zi h25 p27 i28 46) = (600 : Int32)) rfl rfl rfl c54 ?_
          refine zA_tr (L := [some (zrv x0), none, none, some (zI x3), some (zI x4), some (zI x5), some (zI x32), none]) rfl rfl ?_
          refine zA_push rfl rfl zkk23 ?_
          refine zA_go rfl rfl ?_
          exact zA_tr (L := [some (zrv x0), none, none, some (zI x3), some (zI x4), some (zI x5), some (zI x32), none]) rfl rfl (zmS209_47 _ _ _ _ _ _ _ _ _ _ H)
        · refine zA_brT' (c := (zi h25 p27 i28 46) = (600 : Int32)) rfl rfl rfl c54 ?_
          refine zA_tr (L := [some (zrv x0), none, none, some (zI x3), some (zI x4), some (zI x5), some (zI x32), none]) rfl rfl ?_
          refine zA_push rfl rfl zkk7 ?_
          exact zA_tr (L := [some (zrv x0), none, none, some (zI x3), some (zI x4), some (zI x5), some (zI x32), none]) rfl rfl (zmS209_47 _ _ _ _ _ _ _ _ _ _ H)
  · refine zA_brF (c := (zi h25 p27 i28 0) ≤ 0) rfl rfl rfl c31 ?_
    refine zA_push rfl rfl zkk7 ?_
    cases H
    exact zA_ret rfl rfl
-- 209: ReleaseHouseModel.measure(IIZZI)I
def zm209 (x0 : zq) (x1 : Int32) (x2 : Int32) (x3 : Int32) (x4 : Int32) (x5 : Int32) (h : zH) : zRs Int32 :=
  zb (zm140 x1 h) fun x22 h21 =>
  if x22 = 0 then
    zm209_15 x0 x1 x2 x3 x4 x5 x0 (1 : Int32) h21
  else
    zb (zm141 x2 h21) fun x25 h24 =>
    if x25 = 0 then
      zm209_15 x0 x1 x2 x3 x4 x5 x0 (1 : Int32) h24
    else
      zb (zm139 x5 (0 : Int32) (60000 : Int32) h24) fun x28 h27 =>
      if x28 = 0 then
        zm209_15 x0 x1 x2 x3 x4 x5 x0 (1 : Int32) h27
      else
        zm209_15 x0 x1 x2 x3 x4 x5 x0 (0 : Int32) h27
theorem zmS209 {x0 : zq} {x1 : Int32} {x2 : Int32} {x3 : Int32} {x4 : Int32} {x5 : Int32} {h : zH} {r : Int32 ⊕ Nat} {h' : zH} (H : zm209 x0 x1 x2 x3 x4 x5 h = some (r, h')) : zAt 209 0 [some (zrv x0), some (zI x1), some (zI x2), some (zI x3), some (zI x4), some (zI x5), none, none] [] h (zoI r) h' := by
  unfold zm209 at H
  refine zA_aldn rfl rfl rfl ?_
  refine zA_ldn rfl rfl rfl ?_
  rcases zb_e H with ⟨x22, h21, C, H⟩ | ⟨E, h21, C, H⟩
  · refine zA_callV (as := [zI x1]) (st' := [zrv x0]) rfl rfl rfl rfl rfl (zmE140 _) rfl (zmS140 C) ?_
    rcases zite_e H with ⟨c23, H⟩ | ⟨c23, H⟩
    · refine zA_brT (c := x22 = 0) rfl rfl rfl c23 ?_
      refine zA_push rfl rfl zkk5 ?_
      refine zA_go rfl rfl ?_
      exact zA_tr (L := [some (zrv x0), some (zI x1), some (zI x2), some (zI x3), some (zI x4), some (zI x5), none, none]) rfl rfl (zmS209_15 _ _ _ _ _ _ _ _ _ _ _ H)
    · refine zA_brF (c := x22 = 0) rfl rfl rfl c23 ?_
      refine zA_ldn rfl rfl rfl ?_
      rcases zb_e H with ⟨x25, h24, C, H⟩ | ⟨E, h24, C, H⟩
      · refine zA_callV (as := [zI x2]) (st' := [zrv x0]) rfl rfl rfl rfl rfl (zmE141 _) rfl (zmS141 C) ?_
        rcases zite_e H with ⟨c26, H⟩ | ⟨c26, H⟩
        · refine zA_brT (c := x25 = 0) rfl rfl rfl c26 ?_
          refine zA_push rfl rfl zkk5 ?_
          refine zA_go rfl rfl ?_
          exact zA_tr (L := [some (zrv x0), some (zI x1), some (zI x2), some (zI x3), some (zI x4), some (zI x5), none, none]) rfl rfl (zmS209_15 _ _ _ _ _ _ _ _ _ _ _ H)
        · refine zA_brF (c := x25 = 0) rfl rfl rfl c26 ?_
          refine zA_ld rfl rfl rfl ?_
          refine zA_push rfl rfl zkk7 ?_
          refine zA_push rfl rfl zkk54 ?_
          rcases zb_e H with ⟨x28, h27, C, H⟩ | ⟨E, h27, C, H⟩
          · refine zA_callV (as := [zI x5, zI (0 : Int32), zI (60000 : Int32)]) (st' := [zrv x0]) rfl rfl rfl rfl rfl (zmE139 _ _ _) rfl (zmS139 C) ?_
            rcases zite_e H with ⟨c29, H⟩ | ⟨c29, H⟩
            · refine zA_brF' (c := x28 = 0) rfl rfl rfl c29 ?_
              refine zA_push rfl rfl zkk5 ?_
              refine zA_go rfl rfl ?_
              exact zA_tr (L := [some (zrv x0), some (zI x1), some (zI x2), some (zI x3), some (zI x4), some (zI x5), none, none]) rfl rfl (zmS209_15 _ _ _ _ _ _ _ _ _ _ _ H)
            · refine zA_brT' (c := x28 = 0) rfl rfl rfl c29 ?_
              refine zA_push rfl rfl zkk7 ?_
              exact zA_tr (L := [some (zrv x0), some (zI x1), some (zI x2), some (zI x3), some (zI x4), some (zI x5), none, none]) rfl rfl (zmS209_15 _ _ _ _ _ _ _ _ _ _ _ H)
          · cases H
            exact zA_callX (as := [zI x5, zI (0 : Int32), zI (60000 : Int32)]) (st' := [zrv x0]) rfl rfl rfl rfl (zmE139 _ _ _) rfl rfl rfl (zmS139 C)
      · cases H
        exact zA_callX (as := [zI x2]) (st' := [zrv x0]) rfl rfl rfl rfl (zmE141 _) rfl rfl rfl (zmS141 C)
  · cases H
    exact zA_callX (as := [zI x1]) (st' := [zrv x0]) rfl rfl rfl rfl (zmE140 _) rfl rfl rfl (zmS140 C)
theorem zmE209 (x0 : zq) (x1 : Int32) (x2 : Int32) (x3 : Int32) (x4 : Int32) (x5 : Int32) : zpad (zPr.2.1 209).1 (zil [zrv x0, zI x1, zI x2, zI x3, zI x4, zI x5]) = [some (zrv x0), some (zI x1), some (zI x2), some (zI x3), some (zI x4), some (zI x5), none, none] := by
  simp only [zil_A, zil_I, zil_F, zil_D, zil_N]
  rfl
-- 102: ReleaseHouse.capital(II)D
def zm102 (x0 : zq) (x1 : Int32) (x2 : Int32) (h : zH) : zRs UInt64 :=
  zob 11 x0 fun p21 i22 =>
  zb (zm132 x0 x1 x2 h) fun x26 h25 =>
  zob 9 x26 fun p27 i28 =>
  some (.inl (zd h25 p27 i28 4), h25)
theorem zmS102 {x0 : zq} {x1 : Int32} {x2 : Int32} {h : zH} {r : UInt64 ⊕ Nat} {h' : zH} (H : zm102 x0 x1 x2 h = some (r, h')) : zAt 102 0 [some (zrv x0), some (zI x1), some (zI x2)] [] h (zoD r) h' := by
  unfold zm102 at H
  refine zA_aldn rfl rfl rfl ?_
  refine zA_ldn rfl rfl rfl ?_
  refine zA_ldn rfl rfl rfl ?_
  obtain ⟨p21, i22, e23, c24, H⟩ := zob_e H
  rcases zb_e H with ⟨x26, h25, C, H⟩ | ⟨E, h25, C, H⟩
  · refine zA_callV (as := [zrv x0, zI x1, zI x2]) (st' := []) rfl rfl rfl (zrcv_Q e23 c24) rfl (zmE132 _ _ _) rfl (zmS132 C) ?_
    obtain ⟨p27, i28, e29, c30, H⟩ := zob_e H
    refine zA_gf2 rfl rfl e29 c30 ?_
    cases H
    exact zA_ret rfl rfl
  · cases H
    exact zA_callX (as := [zrv x0, zI x1, zI x2]) (st' := []) rfl rfl (zrcv_Q e23 c24) rfl (zmE132 _ _ _) rfl rfl rfl (zmS132 C)
theorem zmE102 (x0 : zq) (x1 : Int32) (x2 : Int32) : zpad (zPr.2.1 102).1 (zil [zrv x0, zI x1, zI x2]) = [some (zrv x0), some (zI x1), some (zI x2)] := by
  simp only [zil_A, zil_I, zil_F, zil_D, zil_N]
  rfl
-- 270: ReleaseHouseLaw.capital(LReleaseHouse;II[D)I
def zm270 (x0 : zq) (x1 : Int32) (x2 : Int32) (x3 : zq) (h : zH) : zRs Int32 :=
  zob 11 x0 fun p21 i22 =>
  zbH [(0, 7, 0, 1)] 5 (zm102 x0 x1 x2 h) fun x26 h25 =>
  zar 4 x3 (0 : Int32) h25 fun p27 i28 j29 =>
  zlet (zsd h25 p27 i28 j29 x26) fun h34 =>
  some (.inl (0 : Int32), h34)
theorem zmS270 {x0 : zq} {x1 : Int32} {x2 : Int32} {x3 : zq} {h : zH} {r : Int32 ⊕ Nat} {h' : zH} (H : zm270 x0 x1 x2 x3 h = some (r, h')) : zAt 270 0 [some (zrv x0), some (zI x1), some (zI x2), some (zrv x3), none] [] h (zoI r) h' := by
  unfold zm270 at H
  refine zA_aldn rfl rfl rfl ?_
  refine zA_push rfl rfl zkk7 ?_
  refine zA_aldn rfl rfl rfl ?_
  refine zA_ldn rfl rfl rfl ?_
  refine zA_ldn rfl rfl rfl ?_
  obtain ⟨p21, i22, e23, c24, H⟩ := zob_e H
  rcases zbH_e H with ⟨x26, h25, C, H⟩ | ⟨E, h25, c36, C, hc, H⟩
  · refine zA_callV (as := [zrv x0, zI x1, zI x2]) (st' := [zI (0 : Int32), zrv x3]) rfl rfl rfl (zrcv_Q e23 c24) rfl (zmE102 _ _ _) rfl (zmS102 C) ?_
    obtain ⟨p27, i28, j29, e30, c31, c32, e33, H⟩ := zar_e H
    obtain ⟨h34, e35, H⟩ := zlet_e H
    refine zA_das rfl rfl e30 c31 c32 e33 e35 ?_
    refine zA_go rfl rfl ?_
    refine zA_tr (L := [none, none, none, none, none]) rfl rfl ?_
    refine zA_push rfl rfl zkk7 ?_
    cases H
    exact zA_ret rfl rfl
  · cases H
    exact zA_callH (as := [zrv x0, zI x1, zI x2]) (st' := [zI (0 : Int32), zrv x3]) rfl rfl (zrcv_Q e23 c24) rfl (zmE102 _ _ _) rfl rfl rfl (List.cons_ne_nil _ _) hc (zmS102 C)
theorem zmE270 (x0 : zq) (x1 : Int32) (x2 : Int32) (x3 : zq) : zpad (zPr.2.1 270).1 (zil [zrv x0, zI x1, zI x2, zrv x3]) = [some (zrv x0), some (zI x1), some (zI x2), some (zrv x3), none] := by
  simp only [zil_A, zil_I, zil_F, zil_D, zil_N]
  rfl
-- 215: ReleaseHouseModel.capital(II)D
def zm215 (x0 : zq) (x1 : Int32) (x2 : Int32) (h : zH) : zRs UInt64 :=
  zob 12 x0 fun p21 i22 =>
  zb (zm191 x0 x1 x2 h) fun x26 h25 =>
  if x26 = 0 then
    some (.inl (0 : UInt64), h25)
  else
    zb (zm211 x0 (((3 : Int32) * x1) + x2) h25) fun x29 h28 =>
    some (.inl x29, h28)
theorem zmS215 {x0 : zq} {x1 : Int32} {x2 : Int32} {h : zH} {r : UInt64 ⊕ Nat} {h' : zH} (H : zm215 x0 x1 x2 h = some (r, h')) : zAt 215 0 [some (zrv x0), some (zI x1), some (zI x2)] [] h (zoD r) h' := by
  unfold zm215 at H
  refine zA_aldn rfl rfl rfl ?_
  refine zA_ldn rfl rfl rfl ?_
  refine zA_ldn rfl rfl rfl ?_
  obtain ⟨p21, i22, e23, c24, H⟩ := zob_e H
  rcases zb_e H with ⟨x26, h25, C, H⟩ | ⟨E, h25, C, H⟩
  · refine zA_callV (as := [zrv x0, zI x1, zI x2]) (st' := []) rfl rfl rfl (zrcv_Q e23 c24) rfl (zmE191 _ _ _) rfl (zmS191 C) ?_
    rcases zite_e H with ⟨c27, H⟩ | ⟨c27, H⟩
    · refine zA_brT (c := x26 = 0) rfl rfl rfl c27 ?_
      refine zA_tr (L := [none, none, none]) rfl rfl ?_
      refine zA_push rfl rfl zkk55 ?_
      cases H
      exact zA_ret rfl rfl
    · refine zA_brF (c := x26 = 0) rfl rfl rfl c27 ?_
      refine zA_aldn rfl rfl rfl ?_
      refine zA_push rfl rfl zkk3 ?_
      refine zA_ldn rfl rfl rfl ?_
      refine zA_st (st' := [zI ((3 : Int32) * x1), zrv x0]) rfl rfl rfl rfl ?_
      refine zA_ldn rfl rfl rfl ?_
      refine zA_st (st' := [zI (((3 : Int32) * x1) + x2), zrv x0]) rfl rfl rfl rfl ?_
      rcases zb_e H with ⟨x29, h28, C, H⟩ | ⟨E, h28, C, H⟩
      · refine zA_callV (as := [zrv x0, zI (((3 : Int32) * x1) + x2)]) (st' := []) rfl rfl rfl (zrcv_Q e23 c24) rfl (zmE211 _ _) rfl (zmS211 C) ?_
        refine zA_go rfl rfl ?_
        refine zA_tr (L := [none, none, none]) rfl rfl ?_
        cases H
        exact zA_ret rfl rfl
      · cases H
        exact zA_callX (as := [zrv x0, zI (((3 : Int32) * x1) + x2)]) (st' := []) rfl rfl (zrcv_Q e23 c24) rfl (zmE211 _ _) rfl rfl rfl (zmS211 C)
  · cases H
    exact zA_callX (as := [zrv x0, zI x1, zI x2]) (st' := []) rfl rfl (zrcv_Q e23 c24) rfl (zmE191 _ _ _) rfl rfl rfl (zmS191 C)
theorem zmE215 (x0 : zq) (x1 : Int32) (x2 : Int32) : zpad (zPr.2.1 215).1 (zil [zrv x0, zI x1, zI x2]) = [some (zrv x0), some (zI x1), some (zI x2)] := by
  simp only [zil_A, zil_I, zil_F, zil_D, zil_N]
  rfl
-- 103: ReleaseHouse.verdict(II)I
def zm103 (x0 : zq) (x1 : Int32) (x2 : Int32) (h : zH) : zRs Int32 :=
  zob 11 x0 fun p21 i22 =>
  zb (zm132 x0 x1 x2 h) fun x26 h25 =>
  zob 9 x26 fun p27 i28 =>
  zb (zm34 x26 h25) fun x32 h31 =>
  some (.inl x32, h31)
theorem zmS103 {x0 : zq} {x1 : Int32} {x2 : Int32} {h : zH} {r : Int32 ⊕ Nat} {h' : zH} (H : zm103 x0 x1 x2 h = some (r, h')) : zAt 103 0 [some (zrv x0), some (zI x1), some (zI x2)] [] h (zoI r) h' := by
  unfold zm103 at H
  refine zA_aldn rfl rfl rfl ?_
  refine zA_ldn rfl rfl rfl ?_
  refine zA_ldn rfl rfl rfl ?_
  obtain ⟨p21, i22, e23, c24, H⟩ := zob_e H
  rcases zb_e H with ⟨x26, h25, C, H⟩ | ⟨E, h25, C, H⟩
  · refine zA_callV (as := [zrv x0, zI x1, zI x2]) (st' := []) rfl rfl rfl (zrcv_Q e23 c24) rfl (zmE132 _ _ _) rfl (zmS132 C) ?_
    obtain ⟨p27, i28, e29, c30, H⟩ := zob_e H
    rcases zb_e H with ⟨x32, h31, C, H⟩ | ⟨E, h31, C, H⟩
    · refine zA_callV (as := [zrv x26]) (st' := []) rfl rfl rfl (zrcv_Q e29 c30) rfl (zmE34 _) rfl (zmS34 C) ?_
      cases H
      exact zA_ret rfl rfl
    · cases H
      exact zA_callX (as := [zrv x26]) (st' := []) rfl rfl (zrcv_Q e29 c30) rfl (zmE34 _) rfl rfl rfl (zmS34 C)
  · cases H
    exact zA_callX (as := [zrv x0, zI x1, zI x2]) (st' := []) rfl rfl (zrcv_Q e23 c24) rfl (zmE132 _ _ _) rfl rfl rfl (zmS132 C)
theorem zmE103 (x0 : zq) (x1 : Int32) (x2 : Int32) : zpad (zPr.2.1 103).1 (zil [zrv x0, zI x1, zI x2]) = [some (zrv x0), some (zI x1), some (zI x2)] := by
  simp only [zil_A, zil_I, zil_F, zil_D, zil_N]
  rfl
-- 271: ReleaseHouseLaw.verdict(LReleaseHouse;II[J)I
def zm271 (x0 : zq) (x1 : Int32) (x2 : Int32) (x3 : zq) (h : zH) : zRs Int32 :=
  zob 11 x0 fun p21 i22 =>
  zbH [(0, 8, 0, 1)] 5 (zm103 x0 x1 x2 h) fun x26 h25 =>
  zar 3 x3 (0 : Int32) h25 fun p27 i28 j29 =>
  zlet (zsl h25 p27 i28 j29 (x26.toInt64)) fun h34 =>
  some (.inl (0 : Int32), h34)
theorem zmS271 {x0 : zq} {x1 : Int32} {x2 : Int32} {x3 : zq} {h : zH} {r : Int32 ⊕ Nat} {h' : zH} (H : zm271 x0 x1 x2 x3 h = some (r, h')) : zAt 271 0 [some (zrv x0), some (zI x1), some (zI x2), some (zrv x3), none] [] h (zoI r) h' := by
  unfold zm271 at H
  refine zA_aldn rfl rfl rfl ?_
  refine zA_push rfl rfl zkk7 ?_
  refine zA_aldn rfl rfl rfl ?_
  refine zA_ldn rfl rfl rfl ?_
  refine zA_ldn rfl rfl rfl ?_
  obtain ⟨p21, i22, e23, c24, H⟩ := zob_e H
  rcases zbH_e H with ⟨x26, h25, C, H⟩ | ⟨E, h25, c36, C, hc, H⟩
  · refine zA_callV (as := [zrv x0, zI x1, zI x2]) (st' := [zI (0 : Int32), zrv x3]) rfl rfl rfl (zrcv_Q e23 c24) rfl (zmE103 _ _ _) rfl (zmS103 C) ?_
    refine zA_st (st' := [zJ (x26.toInt64), zI (0 : Int32), zrv x3]) rfl rfl rfl rfl ?_
    obtain ⟨p27, i28, j29, e30, c31, c32, e33, H⟩ := zar_e H
    obtain ⟨h34, e35, H⟩ := zlet_e H
    refine zA_las rfl rfl e30 c31 c32 e33 e35 ?_
    refine zA_go rfl rfl ?_
    refine zA_tr (L := [none, none, none, none, none]) rfl rfl ?_
    refine zA_push rfl rfl zkk7 ?_
    cases H
    exact zA_ret rfl rfl
  · cases H
    exact zA_callH (as := [zrv x0, zI x1, zI x2]) (st' := [zI (0 : Int32), zrv x3]) rfl rfl (zrcv_Q e23 c24) rfl (zmE103 _ _ _) rfl rfl rfl (List.cons_ne_nil _ _) hc (zmS103 C)
theorem zmE271 (x0 : zq) (x1 : Int32) (x2 : Int32) (x3 : zq) : zpad (zPr.2.1 271).1 (zil [zrv x0, zI x1, zI x2, zrv x3]) = [some (zrv x0), some (zI x1), some (zI x2), some (zrv x3), none] := by
  simp only [zil_A, zil_I, zil_F, zil_D, zil_N]
  rfl
-- 216: ReleaseHouseModel.verdict(II)I
def zm216 (x0 : zq) (x1 : Int32) (x2 : Int32) (h : zH) : zRs Int32 :=
  zob 12 x0 fun p21 i22 =>
  zb (zm191 x0 x1 x2 h) fun x26 h25 =>
  if x26 = 0 then
    some (.inl (0 : Int32), h25)
  else
    zb (zm214 x0 (((3 : Int32) * x1) + x2) h25) fun x29 h28 =>
    some (.inl x29, h28)
theorem zmS216 {x0 : zq} {x1 : Int32} {x2 : Int32} {h : zH} {r : Int32 ⊕ Nat} {h' : zH} (H : zm216 x0 x1 x2 h = some (r, h')) : zAt 216 0 [some (zrv x0), some (zI x1), some (zI x2)] [] h (zoI r) h' := by
  unfold zm216 at H
  refine zA_aldn rfl rfl rfl ?_
  refine zA_ldn rfl rfl rfl ?_
  refine zA_ldn rfl rfl rfl ?_
  obtain ⟨p21, i22, e23, c24, H⟩ := zob_e H
  rcases zb_e H with ⟨x26, h25, C, H⟩ | ⟨E, h25, C, H⟩
  · refine zA_callV (as := [zrv x0, zI x1, zI x2]) (st' := []) rfl rfl rfl (zrcv_Q e23 c24) rfl (zmE191 _ _ _) rfl (zmS191 C) ?_
    rcases zite_e H with ⟨c27, H⟩ | ⟨c27, H⟩
    · refine zA_brT (c := x26 = 0) rfl rfl rfl c27 ?_
      refine zA_tr (L := [none, none, none]) rfl rfl ?_
      refine zA_push rfl rfl zkk7 ?_
      cases H
      exact zA_ret rfl rfl
    · refine zA_brF (c := x26 = 0) rfl rfl rfl c27 ?_
      refine zA_aldn rfl rfl rfl ?_
      refine zA_push rfl rfl zkk3 ?_
      refine zA_ldn rfl rfl rfl ?_
      refine zA_st (st' := [zI ((3 : Int32) * x1), zrv x0]) rfl rfl rfl rfl ?_
      refine zA_ldn rfl rfl rfl ?_
      refine zA_st (st' := [zI (((3 : Int32) * x1) + x2), zrv x0]) rfl rfl rfl rfl ?_
      rcases zb_e H with ⟨x29, h28, C, H⟩ | ⟨E, h28, C, H⟩
      · refine zA_callV (as := [zrv x0, zI (((3 : Int32) * x1) + x2)]) (st' := []) rfl rfl rfl (zrcv_Q e23 c24) rfl (zmE214 _ _) rfl (zmS214 C) ?_
        refine zA_go rfl rfl ?_
        refine zA_tr (L := [none, none, none]) rfl rfl ?_
        cases H
        exact zA_ret rfl rfl
      · cases H
        exact zA_callX (as := [zrv x0, zI (((3 : Int32) * x1) + x2)]) (st' := []) rfl rfl (zrcv_Q e23 c24) rfl (zmE214 _ _) rfl rfl rfl (zmS214 C)
  · cases H
    exact zA_callX (as := [zrv x0, zI x1, zI x2]) (st' := []) rfl rfl (zrcv_Q e23 c24) rfl (zmE191 _ _ _) rfl rfl rfl (zmS191 C)
theorem zmE216 (x0 : zq) (x1 : Int32) (x2 : Int32) : zpad (zPr.2.1 216).1 (zil [zrv x0, zI x1, zI x2]) = [some (zrv x0), some (zI x1), some (zI x2)] := by
  simp only [zil_A, zil_I, zil_F, zil_D, zil_N]
  rfl
def zm22_25 (k9 : zq → Int32 → Int32 → Int32 → zH → zRs Int32) (x0 : zq) (x1 : Int32) (x3 : Int32) (s0 : Int32) (s1 : Int32) (h : zH) : zRs Int32 :=
  zlet (s0 + s1) fun x21 =>
  zlet (x3 + (1 : Int32)) fun x23 =>
  k9 x0 x1 x21 x23 h
theorem zmS22_25 {k9 : zq → Int32 → Int32 → Int32 → zH → zRs Int32} (hk9 : ∀ (x0 : zq) (x1 : Int32) (x2 : Int32) (x3 : Int32) (h : zH) (r : Int32 ⊕ Nat) (h' : zH), k9 x0 x1 x2 x3 h = some (r, h') → zAt 22 9 [some (zrv x0), some (zI x1), some (zI x2), some (zI x3)] [] h (zoI r) h') : ∀ (x0 : zq) (x1 : Int32) (x3 : Int32) (s0 : Int32) (s1 : Int32) (h : zH) (r : Int32 ⊕ Nat) (h' : zH), zm22_25 k9 x0 x1 x3 s0 s1 h = some (r, h') → zAt 22 25 [some (zrv x0), some (zI x1), none, some (zI x3)] [zI s1, zI s0] h (zoI r) h' := by
  intro x0 x1 x3 s0 s1 h r h' H
  unfold zm22_25 at H
  refine zA_st (st' := [zI (s0 + s1)]) rfl rfl rfl rfl ?_
  obtain ⟨x21, e22, H⟩ := zlet_e H
  refine zA_istn2 rfl rfl e22 (zset1 (L' := [some (zrv x0), some (zI x1), some (zI x21), some (zI x3)]) rfl rfl (zpcV rfl rfl)) ?_
  obtain ⟨x23, e24, H⟩ := zlet_e H
  refine zA_inc rfl rfl rfl (e24.trans (congrArg (_ + ·) zkk8)) (zset1 (L' := [some (zrv x0), some (zI x1), some (zI x21), some (zI x23)]) rfl rfl (zpcV rfl rfl)) ?_
  refine zA_go rfl rfl ?_
  exact zA_tr (L := [some (zrv x0), some (zI x1), some (zI x21), some (zI x23)]) rfl rfl (hk9 _ _ _ _ _ _ _ H)
def zm22_9 (k29 : zq → Int32 → Int32 → zH → zRs Int32) : Nat → zq → Int32 → Int32 → Int32 → zH → zRs Int32
  | 0, _, _, _, _, _ => none
  | n + 1, x0, x1, x2, x3, h =>
    zob 7 x0 fun p21 i22 =>
    if (zi h p21 i22 1) ≤ x3 then
      k29 x0 x1 x2 h
    else
      zri (zr h p21 i22 0) x3 h fun v33 =>
      if x1 < (v33 >>> ((1 : Int32) &&& 31)) then
        zm22_25 (zm22_9 k29 n) x0 x1 x3 x2 (0 : Int32) h
      else
        zm22_25 (zm22_9 k29 n) x0 x1 x3 x2 (1 : Int32) h
theorem zmS22_9 {k29 : zq → Int32 → Int32 → zH → zRs Int32} (hk29 : ∀ (x0 : zq) (x1 : Int32) (x2 : Int32) (h : zH) (r : Int32 ⊕ Nat) (h' : zH), k29 x0 x1 x2 h = some (r, h') → zAt 22 29 [some (zrv x0), some (zI x1), some (zI x2), none] [] h (zoI r) h') : ∀ (n : Nat) (x0 : zq) (x1 : Int32) (x2 : Int32) (x3 : Int32) (h : zH) (r : Int32 ⊕ Nat) (h' : zH), zm22_9 k29 n x0 x1 x2 x3 h = some (r, h') → zAt 22 9 [some (zrv x0), some (zI x1), some (zI x2), some (zI x3)] [] h (zoI r) h' := by
  intro n
  induction n with
  | zero => intro x0 x1 x2 x3 h r h' H; cases H
  | succ n ih =>
    intro x0 x1 x2 x3 h r h' H
    unfold zm22_9 at H
    refine zA_ldn rfl rfl rfl ?_
    refine zA_aldn rfl rfl rfl ?_
    obtain ⟨p21, i22, e23, c24, H⟩ := zob_e H
    refine zA_gf0 rfl rfl (Or.inl rfl) e23 c24 ?_
    rcases zite_e H with ⟨c25, H⟩ | ⟨c25, H⟩
    · refine zA_brT (c := (zi h p21 i22 1) ≤ x3) rfl rfl rfl c25 ?_
      exact zA_tr (L := [some (zrv x0), some (zI x1), some (zI x2), none]) rfl rfl (hk29 _ _ _ _ _ _ H)
    · refine zA_brF (c := (zi h p21 i22 1) ≤ x3) rfl rfl rfl c25 ?_
      refine zA_ldn rfl rfl rfl ?_
      refine zA_aldn rfl rfl rfl ?_
      refine zA_gf3 rfl rfl e23 c24 ?_
      refine zA_ldn rfl rfl rfl ?_
      obtain ⟨p26, i27, j28, v33, e29, c30, c31, e32, e34, H⟩ := zri_e H
      refine zA_ial rfl rfl e29 c30 c31 e32 e34 ?_
      refine zA_push rfl rfl zkk5 ?_
      refine zA_st (st' := [zI (v33 >>> ((1 : Int32) &&& 31)), zI x2]) rfl rfl rfl rfl ?_
      refine zA_ldn rfl rfl rfl ?_
      rcases zite_e H with ⟨c35, H⟩ | ⟨c35, H⟩
      · refine zA_brT (c := x1 < (v33 >>> ((1 : Int32) &&& 31))) rfl rfl rfl c35 ?_
        refine zA_tr (L := [some (zrv x0), some (zI x1), none, some (zI x3)]) rfl rfl ?_
        refine zA_push rfl rfl zkk7 ?_
        exact zA_tr (L := [some (zrv x0), some (zI x1), none, some (zI x3)]) rfl rfl (zmS22_25 ih _ _ _ _ _ _ _ _ H)
      · refine zA_brF (c := x1 < (v33 >>> ((1 : Int32) &&& 31))) rfl rfl rfl c35 ?_
        refine zA_push rfl rfl zkk5 ?_
        refine zA_go rfl rfl ?_
        exact zA_tr (L := [some (zrv x0), some (zI x1), none, some (zI x3)]) rfl rfl (zmS22_25 ih _ _ _ _ _ _ _ _ H)
def zm22_29 (k2 : zq → Int32 → zH → zRs Int32) (x0 : zq) (x1 : Int32) (x2 : Int32) (h : zH) : zRs Int32 :=
  zob 7 x0 fun p21 i22 =>
  zb (zm23 x0 x2 h) fun x26 h25 =>
  if x26 = 0 then
    zlet (x1 + (1 : Int32)) fun x28 =>
    k2 x0 x28 h25
  else
    some (.inl x1, h25)
theorem zmS22_29 {k2 : zq → Int32 → zH → zRs Int32} (hk2 : ∀ (x0 : zq) (x1 : Int32) (h : zH) (r : Int32 ⊕ Nat) (h' : zH), k2 x0 x1 h = some (r, h') → zAt 22 2 [some (zrv x0), some (zI x1), none, none] [] h (zoI r) h') : ∀ (x0 : zq) (x1 : Int32) (x2 : Int32) (h : zH) (r : Int32 ⊕ Nat) (h' : zH), zm22_29 k2 x0 x1 x2 h = some (r, h') → zAt 22 29 [some (zrv x0), some (zI x1), some (zI x2), none] [] h (zoI r) h' := by
  intro x0 x1 x2 h r h' H
  unfold zm22_29 at H
  refine zA_aldn rfl rfl rfl ?_
  refine zA_ldn rfl rfl rfl ?_
  obtain ⟨p21, i22, e23, c24, H⟩ := zob_e H
  rcases zb_e H with ⟨x26, h25, C, H⟩ | ⟨E, h25, C, H⟩
  · refine zA_callV (as := [zrv x0, zI x2]) (st' := []) rfl rfl rfl (zrcv_Q e23 c24) rfl (zmE23 _ _) rfl (zmS23 C) ?_
    rcases zite_e H with ⟨c27, H⟩ | ⟨c27, H⟩
    · refine zA_brT (c := x26 = 0) rfl rfl rfl c27 ?_
      refine zA_tr (L := [some (zrv x0), some (zI x1), none, none]) rfl rfl ?_
      obtain ⟨x28, e29, H⟩ := zlet_e H
      refine zA_inc rfl rfl rfl (e29.trans (congrArg (_ + ·) zkk8)) (zset1 (L' := [some (zrv x0), some (zI x28), none, none]) rfl rfl (zpcV rfl (zcat_rv _))) ?_
      refine zA_go rfl rfl ?_
      exact zA_tr (L := [some (zrv x0), some (zI x28), none, none]) rfl rfl (hk2 _ _ _ _ _ H)
    · refine zA_brF (c := x26 = 0) rfl rfl rfl c27 ?_
      refine zA_ldn rfl rfl rfl ?_
      cases H
      exact zA_ret rfl rfl
  · cases H
    exact zA_callX (as := [zrv x0, zI x2]) (st' := []) rfl rfl (zrcv_Q e23 c24) rfl (zmE23 _ _) rfl rfl rfl (zmS23 C)
def zm22_2 : Nat → zq → Int32 → zH → zRs Int32
  | 0, _, _, _ => none
  | n + 1, x0, x1, h =>
    if (17 : Int32) ≤ x1 then
      some (.inl (16 : Int32), h)
    else
      zm22_9 (zm22_29 (zm22_2 n)) zN0 x0 x1 (0 : Int32) (0 : Int32) h
theorem zmS22_2 : ∀ (n : Nat) (x0 : zq) (x1 : Int32) (h : zH) (r : Int32 ⊕ Nat) (h' : zH), zm22_2 n x0 x1 h = some (r, h') → zAt 22 2 [some (zrv x0), some (zI x1), none, none] [] h (zoI r) h' := by
  intro n
  induction n with
  | zero => intro x0 x1 h r h' H; cases H
  | succ n ih =>
    intro x0 x1 h r h' H
    unfold zm22_2 at H
    refine zA_ldn rfl rfl rfl ?_
    refine zA_push rfl rfl zkk1 ?_
    rcases zite_e H with ⟨c21, H⟩ | ⟨c21, H⟩
    · refine zA_brT (c := (17 : Int32) ≤ x1) rfl rfl rfl c21 ?_
      refine zA_tr (L := [none, none, none, none]) rfl rfl ?_
      refine zA_push rfl rfl zkk33 ?_
      cases H
      exact zA_ret rfl rfl
    · refine zA_brF (c := (17 : Int32) ≤ x1) rfl rfl rfl c21 ?_
      refine zA_push rfl rfl zkk7 ?_
      refine zA_istn2 rfl rfl rfl (zset1 (L' := [some (zrv x0), some (zI x1), some (zI (0 : Int32)), none]) rfl rfl (zpcV rfl rfl)) ?_
      refine zA_push rfl rfl zkk7 ?_
      refine zA_istn2 rfl rfl rfl (zset1 (L' := [some (zrv x0), some (zI x1), some (zI (0 : Int32)), some (zI (0 : Int32))]) rfl rfl (zpcV rfl rfl)) ?_
      exact zA_tr (L := [some (zrv x0), some (zI x1), some (zI (0 : Int32)), some (zI (0 : Int32))]) rfl rfl (zmS22_9 (zmS22_29 ih) zN0 _ _ _ _ _ _ _ H)
-- 22: ReleaseHouse$Sample.slowBucketAnew()I
def zm22 (x0 : zq) (h : zH) : zRs Int32 :=
  zm22_2 zN0 x0 (0 : Int32) h
theorem zmS22 {x0 : zq} {h : zH} {r : Int32 ⊕ Nat} {h' : zH} (H : zm22 x0 h = some (r, h')) : zAt 22 0 [some (zrv x0), none, none, none] [] h (zoI r) h' := by
  unfold zm22 at H
  refine zA_push rfl rfl zkk7 ?_
  refine zA_istn2 rfl rfl rfl (zset1 (L' := [some (zrv x0), some (zI (0 : Int32)), none, none]) rfl rfl (zpcV rfl (zcat_rv _))) ?_
  exact zA_tr (L := [some (zrv x0), some (zI (0 : Int32)), none, none]) rfl rfl (zmS22_2 zN0 _ _ _ _ _ H)
theorem zmE22 (x0 : zq) : zpad (zPr.2.1 22).1 (zil [zrv x0]) = [some (zrv x0), none, none, none] := by
  simp only [zil_A, zil_I, zil_F, zil_D, zil_N]
  rfl
def zm35_4 (k15 : zq → UInt64 → zH → zRs Int32) : Nat → zq → UInt64 → Int32 → zH → zRs Int32
  | 0, _, _, _, _ => none
  | n + 1, x0, x1, x3, h =>
    zob 9 x0 fun p21 i22 =>
    zb (zm37 x0 h) fun x26 h25 =>
    if x26 ≤ x3 then
      k15 x0 x1 h25
    else
      zb (zm33 x0 x1 x3 h25) fun x29 h28 =>
      zlet (x3 + (1 : Int32)) fun x30 =>
      zm35_4 k15 n x0 x29 x30 h28
theorem zmS35_4 {k15 : zq → UInt64 → zH → zRs Int32} (hk15 : ∀ (x0 : zq) (x1 : UInt64) (h : zH) (r : Int32 ⊕ Nat) (h' : zH), k15 x0 x1 h = some (r, h') → zAt 35 15 [some (zrv x0), some (zD x1), none, none] [] h (zoI r) h') : ∀ (n : Nat) (x0 : zq) (x1 : UInt64) (x3 : Int32) (h : zH) (r : Int32 ⊕ Nat) (h' : zH), zm35_4 k15 n x0 x1 x3 h = some (r, h') → zAt 35 4 [some (zrv x0), some (zD x1), none, some (zI x3)] [] h (zoI r) h' := by
  intro n
  induction n with
  | zero => intro x0 x1 x3 h r h' H; cases H
  | succ n ih =>
    intro x0 x1 x3 h r h' H
    unfold zm35_4 at H
    refine zA_ldn rfl rfl rfl ?_
    refine zA_aldn rfl rfl rfl ?_
    obtain ⟨p21, i22, e23, c24, H⟩ := zob_e H
    rcases zb_e H with ⟨x26, h25, C, H⟩ | ⟨E, h25, C, H⟩
    · refine zA_callV (as := [zrv x0]) (st' := [zI x3]) rfl rfl rfl (zrcv_Q e23 c24) rfl (zmE37 _) rfl (zmS37 C) ?_
      rcases zite_e H with ⟨c27, H⟩ | ⟨c27, H⟩
      · refine zA_brT (c := x26 ≤ x3) rfl rfl rfl c27 ?_
        exact zA_tr (L := [some (zrv x0), some (zD x1), none, none]) rfl rfl (hk15 _ _ _ _ _ H)
      · refine zA_brF (c := x26 ≤ x3) rfl rfl rfl c27 ?_
        refine zA_aldn rfl rfl rfl ?_
        refine zA_dldn rfl rfl rfl ?_
        refine zA_ldn rfl rfl rfl ?_
        rcases zb_e H with ⟨x29, h28, C, H⟩ | ⟨E, h28, C, H⟩
        · refine zA_callV (as := [zrv x0, zD x1, zI x3]) (st' := []) rfl rfl rfl (zrcv_Q e23 c24) rfl (zmE33 _ _ _) rfl (zmS33 C) ?_
          refine zA_dstn2 rfl rfl rfl (zset2 (L' := [some (zrv x0), some (zD x29), none, some (zI x3)]) rfl rfl (zpcV rfl (zcat_rv _)) rfl) ?_
          obtain ⟨x30, e31, H⟩ := zlet_e H
          refine zA_inc rfl rfl rfl (e31.trans (congrArg (_ + ·) zkk8)) (zset1 (L' := [some (zrv x0), some (zD x29), none, some (zI x30)]) rfl rfl (zpcN rfl)) ?_
          refine zA_go rfl rfl ?_
          exact zA_tr (L := [some (zrv x0), some (zD x29), none, some (zI x30)]) rfl rfl (ih _ _ _ _ _ _ H)
        · cases H
          exact zA_callX (as := [zrv x0, zD x1, zI x3]) (st' := []) rfl rfl (zrcv_Q e23 c24) rfl (zmE33 _ _ _) rfl rfl rfl (zmS33 C)
    · cases H
      exact zA_callX (as := [zrv x0]) (st' := [zI x3]) rfl rfl (zrcv_Q e23 c24) rfl (zmE37 _) rfl rfl rfl (zmS37 C)
def zm35_15 (x0 : zq) (x1 : UInt64) (h : zH) : zRs Int32 :=
  zob 9 x0 fun p21 i22 =>
  zob 7 (zr h p21 i22 5) fun p25 i26 =>
  zb (zm22 (zr h p21 i22 5) h) fun x30 h29 =>
  zob 7 (zr h29 p21 i22 6) fun p31 i32 =>
  zb (zm22 (zr h29 p21 i22 6) h29) fun x36 h35 =>
  zb (zm36 x0 x1 x30 x36 h35) fun x38 h37 =>
  some (.inl x38, h37)
theorem zmS35_15 : ∀ (x0 : zq) (x1 : UInt64) (h : zH) (r : Int32 ⊕ Nat) (h' : zH), zm35_15 x0 x1 h = some (r, h') → zAt 35 15 [some (zrv x0), some (zD x1), none, none] [] h (zoI r) h' := by
  intro x0 x1 h r h' H
  unfold zm35_15 at H
  refine zA_aldn rfl rfl rfl ?_
  refine zA_dldn rfl rfl rfl ?_
  refine zA_aldn rfl rfl rfl ?_
  obtain ⟨p21, i22, e23, c24, H⟩ := zob_e H
  refine zA_gf3 rfl rfl e23 c24 ?_
  obtain ⟨p25, i26, e27, c28, H⟩ := zob_e H
  rcases zb_e H with ⟨x30, h29, C, H⟩ | ⟨E, h29, C, H⟩
  · refine zA_callV (as := [zrv (zr h p21 i22 5)]) (st' := [zD x1, zrv x0]) rfl rfl rfl (zrcv_Q e27 c28) rfl (zmE22 _) rfl (zmS22 C) ?_
    refine zA_aldn rfl rfl rfl ?_
    refine zA_gf3 rfl rfl e23 c24 ?_
    obtain ⟨p31, i32, e33, c34, H⟩ := zob_e H
    rcases zb_e H with ⟨x36, h35, C, H⟩ | ⟨E, h35, C, H⟩
    · refine zA_callV (as := [zrv (zr h29 p21 i22 6)]) (st' := [zI x30, zD x1, zrv x0]) rfl rfl rfl (zrcv_Q e33 c34) rfl (zmE22 _) rfl (zmS22 C) ?_
      rcases zb_e H with ⟨x38, h37, C, H⟩ | ⟨E, h37, C, H⟩
      · refine zA_callV (as := [zrv x0, zD x1, zI x30, zI x36]) (st' := []) rfl rfl rfl (zrcv_Q e23 c24) rfl (zmE36 _ _ _ _) rfl (zmS36 C) ?_
        cases H
        exact zA_ret rfl rfl
      · cases H
        exact zA_callX (as := [zrv x0, zD x1, zI x30, zI x36]) (st' := []) rfl rfl (zrcv_Q e23 c24) rfl (zmE36 _ _ _ _) rfl rfl rfl (zmS36 C)
    · cases H
      exact zA_callX (as := [zrv (zr h29 p21 i22 6)]) (st' := [zI x30, zD x1, zrv x0]) rfl rfl (zrcv_Q e33 c34) rfl (zmE22 _) rfl rfl rfl (zmS22 C)
  · cases H
    exact zA_callX (as := [zrv (zr h p21 i22 5)]) (st' := [zD x1, zrv x0]) rfl rfl (zrcv_Q e27 c28) rfl (zmE22 _) rfl rfl rfl (zmS22 C)
-- 35: ReleaseHouse$Spot.judgementAnew()I
def zm35 (x0 : zq) (h : zH) : zRs Int32 :=
  zm35_4 (zm35_15) zN0 x0 (4607182418800017408 : UInt64) (0 : Int32) h
theorem zmS35 {x0 : zq} {h : zH} {r : Int32 ⊕ Nat} {h' : zH} (H : zm35 x0 h = some (r, h')) : zAt 35 0 [some (zrv x0), none, none, none] [] h (zoI r) h' := by
  unfold zm35 at H
  refine zA_push rfl rfl zkk2 ?_
  refine zA_dstn2 rfl rfl rfl (zset2 (L' := [some (zrv x0), some (zD (4607182418800017408 : UInt64)), none, none]) rfl rfl (zpcV rfl (zcat_rv _)) rfl) ?_
  refine zA_push rfl rfl zkk7 ?_
  refine zA_istn2 rfl rfl rfl (zset1 (L' := [some (zrv x0), some (zD (4607182418800017408 : UInt64)), none, some (zI (0 : Int32))]) rfl rfl (zpcN rfl)) ?_
  exact zA_tr (L := [some (zrv x0), some (zD (4607182418800017408 : UInt64)), none, some (zI (0 : Int32))]) rfl rfl (zmS35_4 (zmS35_15) zN0 _ _ _ _ _ _ H)
theorem zmE35 (x0 : zq) : zpad (zPr.2.1 35).1 (zil [zrv x0]) = [some (zrv x0), none, none, none] := by
  simp only [zil_A, zil_I, zil_F, zil_D, zil_N]
  rfl
-- 104: ReleaseHouse.verdictByAll(II)I
def zm104 (x0 : zq) (x1 : Int32) (x2 : Int32) (h : zH) : zRs Int32 :=
  zob 11 x0 fun p21 i22 =>
  zb (zm132 x0 x1 x2 h) fun x26 h25 =>
  zob 9 x26 fun p27 i28 =>
  zb (zm35 x26 h25) fun x32 h31 =>
  some (.inl x32, h31)
theorem zmS104 {x0 : zq} {x1 : Int32} {x2 : Int32} {h : zH} {r : Int32 ⊕ Nat} {h' : zH} (H : zm104 x0 x1 x2 h = some (r, h')) : zAt 104 0 [some (zrv x0), some (zI x1), some (zI x2)] [] h (zoI r) h' := by
  unfold zm104 at H
  refine zA_aldn rfl rfl rfl ?_
  refine zA_ldn rfl rfl rfl ?_
  refine zA_ldn rfl rfl rfl ?_
  obtain ⟨p21, i22, e23, c24, H⟩ := zob_e H
  rcases zb_e H with ⟨x26, h25, C, H⟩ | ⟨E, h25, C, H⟩
  · refine zA_callV (as := [zrv x0, zI x1, zI x2]) (st' := []) rfl rfl rfl (zrcv_Q e23 c24) rfl (zmE132 _ _ _) rfl (zmS132 C) ?_
    obtain ⟨p27, i28, e29, c30, H⟩ := zob_e H
    rcases zb_e H with ⟨x32, h31, C, H⟩ | ⟨E, h31, C, H⟩
    · refine zA_callV (as := [zrv x26]) (st' := []) rfl rfl rfl (zrcv_Q e29 c30) rfl (zmE35 _) rfl (zmS35 C) ?_
      cases H
      exact zA_ret rfl rfl
    · cases H
      exact zA_callX (as := [zrv x26]) (st' := []) rfl rfl (zrcv_Q e29 c30) rfl (zmE35 _) rfl rfl rfl (zmS35 C)
  · cases H
    exact zA_callX (as := [zrv x0, zI x1, zI x2]) (st' := []) rfl rfl (zrcv_Q e23 c24) rfl (zmE132 _ _ _) rfl rfl rfl (zmS132 C)
theorem zmE104 (x0 : zq) (x1 : Int32) (x2 : Int32) : zpad (zPr.2.1 104).1 (zil [zrv x0, zI x1, zI x2]) = [some (zrv x0), some (zI x1), some (zI x2)] := by
  simp only [zil_A, zil_I, zil_F, zil_D, zil_N]
  rfl
-- 272: ReleaseHouseLaw.verdictByAll(LReleaseHouse;II[J)I
def zm272 (x0 : zq) (x1 : Int32) (x2 : Int32) (x3 : zq) (h : zH) : zRs Int32 :=
  zob 11 x0 fun p21 i22 =>
  zbH [(0, 8, 0, 1)] 5 (zm104 x0 x1 x2 h) fun x26 h25 =>
  zar 3 x3 (0 : Int32) h25 fun p27 i28 j29 =>
  zlet (zsl h25 p27 i28 j29 (x26.toInt64)) fun h34 =>
  some (.inl (0 : Int32), h34)
theorem zmS272 {x0 : zq} {x1 : Int32} {x2 : Int32} {x3 : zq} {h : zH} {r : Int32 ⊕ Nat} {h' : zH} (H : zm272 x0 x1 x2 x3 h = some (r, h')) : zAt 272 0 [some (zrv x0), some (zI x1), some (zI x2), some (zrv x3), none] [] h (zoI r) h' := by
  unfold zm272 at H
  refine zA_aldn rfl rfl rfl ?_
  refine zA_push rfl rfl zkk7 ?_
  refine zA_aldn rfl rfl rfl ?_
  refine zA_ldn rfl rfl rfl ?_
  refine zA_ldn rfl rfl rfl ?_
  obtain ⟨p21, i22, e23, c24, H⟩ := zob_e H
  rcases zbH_e H with ⟨x26, h25, C, H⟩ | ⟨E, h25, c36, C, hc, H⟩
  · refine zA_callV (as := [zrv x0, zI x1, zI x2]) (st' := [zI (0 : Int32), zrv x3]) rfl rfl rfl (zrcv_Q e23 c24) rfl (zmE104 _ _ _) rfl (zmS104 C) ?_
    refine zA_st (st' := [zJ (x26.toInt64), zI (0 : Int32), zrv x3]) rfl rfl rfl rfl ?_
    obtain ⟨p27, i28, j29, e30, c31, c32, e33, H⟩ := zar_e H
    obtain ⟨h34, e35, H⟩ := zlet_e H
    refine zA_las rfl rfl e30 c31 c32 e33 e35 ?_
    refine zA_go rfl rfl ?_
    refine zA_tr (L := [none, none, none, none, none]) rfl rfl ?_
    refine zA_push rfl rfl zkk7 ?_
    cases H
    exact zA_ret rfl rfl
  · cases H
    exact zA_callH (as := [zrv x0, zI x1, zI x2]) (st' := [zI (0 : Int32), zrv x3]) rfl rfl (zrcv_Q e23 c24) rfl (zmE104 _ _ _) rfl rfl rfl (List.cons_ne_nil _ _) hc (zmS104 C)
theorem zmE272 (x0 : zq) (x1 : Int32) (x2 : Int32) (x3 : zq) : zpad (zPr.2.1 272).1 (zil [zrv x0, zI x1, zI x2, zrv x3]) = [some (zrv x0), some (zI x1), some (zI x2), some (zrv x3), none] := by
  simp only [zil_A, zil_I, zil_F, zil_D, zil_N]
  rfl
-- 217: ReleaseHouseModel.verdictByAll(II)I
def zm217 (x0 : zq) (x1 : Int32) (x2 : Int32) (h : zH) : zRs Int32 :=
  zob 12 x0 fun p21 i22 =>
  zb (zm216 x0 x1 x2 h) fun x26 h25 =>
  some (.inl x26, h25)
theorem zmS217 {x0 : zq} {x1 : Int32} {x2 : Int32} {h : zH} {r : Int32 ⊕ Nat} {h' : zH} (H : zm217 x0 x1 x2 h = some (r, h')) : zAt 217 0 [some (zrv x0), some (zI x1), some (zI x2)] [] h (zoI r) h' := by
  unfold zm217 at H
  refine zA_aldn rfl rfl rfl ?_
  refine zA_ldn rfl rfl rfl ?_
  refine zA_ldn rfl rfl rfl ?_
  obtain ⟨p21, i22, e23, c24, H⟩ := zob_e H
  rcases zb_e H with ⟨x26, h25, C, H⟩ | ⟨E, h25, C, H⟩
  · refine zA_callV (as := [zrv x0, zI x1, zI x2]) (st' := []) rfl rfl rfl (zrcv_Q e23 c24) rfl (zmE216 _ _ _) rfl (zmS216 C) ?_
    cases H
    exact zA_ret rfl rfl
  · cases H
    exact zA_callX (as := [zrv x0, zI x1, zI x2]) (st' := []) rfl rfl (zrcv_Q e23 c24) rfl (zmE216 _ _ _) rfl rfl rfl (zmS216 C)
theorem zmE217 (x0 : zq) (x1 : Int32) (x2 : Int32) : zpad (zPr.2.1 217).1 (zil [zrv x0, zI x1, zI x2]) = [some (zrv x0), some (zI x1), some (zI x2)] := by
  simp only [zil_A, zil_I, zil_F, zil_D, zil_N]
  rfl
-- 105: ReleaseHouse.badPart(IIZ)F
def zm105 (x0 : zq) (x1 : Int32) (x2 : Int32) (x3 : Int32) (h : zH) : zRs UInt32 :=
  zob 11 x0 fun p21 i22 =>
  zb (zm132 x0 x1 x2 h) fun x26 h25 =>
  zob 9 x26 fun p27 i28 =>
  zb (zm31 x26 x3 h25) fun x32 h31 =>
  zob 7 x32 fun p33 i34 =>
  if (zi h31 p33 i34 1) ≤ 0 then
    some (.inl (0 : UInt32), h31)
  else
    zif (FP.fdiv (FP.i2f (zi h31 p33 i34 2)) (FP.i2f (zi h31 p33 i34 1)) &&& 0x7fffffff ≤ 0x7f800000) <|
    some (.inl (FP.fdiv (FP.i2f (zi h31 p33 i34 2)) (FP.i2f (zi h31 p33 i34 1))), h31)
theorem zmS105 {x0 : zq} {x1 : Int32} {x2 : Int32} {x3 : Int32} {h : zH} {r : UInt32 ⊕ Nat} {h' : zH} (H : zm105 x0 x1 x2 x3 h = some (r, h')) : zAt 105 0 [some (zrv x0), some (zI x1), some (zI x2), some (zI x3), none] [] h (zoF r) h' := by
  unfold zm105 at H
  refine zA_aldn rfl rfl rfl ?_
  refine zA_ldn rfl rfl rfl ?_
  refine zA_ldn rfl rfl rfl ?_
  obtain ⟨p21, i22, e23, c24, H⟩ := zob_e H
  rcases zb_e H with ⟨x26, h25, C, H⟩ | ⟨E, h25, C, H⟩
  · refine zA_callV (as := [zrv x0, zI x1, zI x2]) (st' := []) rfl rfl rfl (zrcv_Q e23 c24) rfl (zmE132 _ _ _) rfl (zmS132 C) ?_
    refine zA_ldn rfl rfl rfl ?_
    obtain ⟨p27, i28, e29, c30, H⟩ := zob_e H
    rcases zb_e H with ⟨x32, h31, C, H⟩ | ⟨E, h31, C, H⟩
    · refine zA_callV (as := [zrv x26, zI x3]) (st' := []) rfl rfl rfl (zrcv_Q e29 c30) rfl (zmE31 _ _) rfl (zmS31 C) ?_
      refine zA_ast2 rfl rfl rfl (zset1 (L' := [some (zrv x0), some (zI x1), some (zI x2), some (zI x3), some (zrv x32)]) (zcat_rv _) rfl (zpcV rfl rfl)) ?_
      refine zA_ald rfl rfl rfl ?_
      obtain ⟨p33, i34, e35, c36, H⟩ := zob_e H
      refine zA_gf0 rfl rfl (Or.inl rfl) e35 c36 ?_
      rcases zite_e H with ⟨c37, H⟩ | ⟨c37, H⟩
      · refine zA_brT (c := (zi h31 p33 i34 1) ≤ 0) rfl rfl rfl c37 ?_
        refine zA_tr (L := [none, none, none, none, none]) rfl rfl ?_
        refine zA_push rfl rfl zkk56 ?_
        cases H
        exact zA_ret rfl rfl
      · refine zA_brF (c := (zi h31 p33 i34 1) ≤ 0) rfl rfl rfl c37 ?_
        refine zA_ald rfl rfl rfl ?_
        refine zA_gf0 rfl rfl (Or.inl rfl) e35 c36 ?_
        refine zA_st (st' := [zF (FP.i2f (zi h31 p33 i34 2))]) rfl rfl rfl rfl ?_
        refine zA_ald rfl rfl rfl ?_
        refine zA_gf0 rfl rfl (Or.inl rfl) e35 c36 ?_
        refine zA_st (st' := [zF (FP.i2f (zi h31 p33 i34 1)), zF (FP.i2f (zi h31 p33 i34 2))]) rfl rfl rfl rfl ?_
        obtain ⟨c38, H⟩ := zif_e H
        refine zA_fdiv rfl rfl c38 ?_
        refine zA_go rfl rfl ?_
        refine zA_tr (L := [none, none, none, none, none]) rfl rfl ?_
        cases H
        exact zA_ret rfl rfl
    · cases H
      exact zA_callX (as := [zrv x26, zI x3]) (st' := []) rfl rfl (zrcv_Q e29 c30) rfl (zmE31 _ _) rfl rfl rfl (zmS31 C)
  · cases H
    exact zA_callX (as := [zrv x0, zI x1, zI x2]) (st' := []) rfl rfl (zrcv_Q e23 c24) rfl (zmE132 _ _ _) rfl rfl rfl (zmS132 C)
theorem zmE105 (x0 : zq) (x1 : Int32) (x2 : Int32) (x3 : Int32) : zpad (zPr.2.1 105).1 (zil [zrv x0, zI x1, zI x2, zI x3]) = [some (zrv x0), some (zI x1), some (zI x2), some (zI x3), none] := by
  simp only [zil_A, zil_I, zil_F, zil_D, zil_N]
  rfl
-- 273: ReleaseHouseLaw.badPart(LReleaseHouse;IIZ[D)I
def zm273 (x0 : zq) (x1 : Int32) (x2 : Int32) (x3 : Int32) (x4 : zq) (h : zH) : zRs Int32 :=
  zob 11 x0 fun p21 i22 =>
  zbH [(0, 9, 0, 1)] 6 (zm105 x0 x1 x2 x3 h) fun x26 h25 =>
  zif (FP.f2d x26 &&& 0x7fffffffffffffff ≤ 0x7ff0000000000000) <|
  zar 4 x4 (0 : Int32) h25 fun p28 i29 j30 =>
  zlet (zsd h25 p28 i29 j30 (FP.f2d x26)) fun h35 =>
  some (.inl (0 : Int32), h35)
theorem zmS273 {x0 : zq} {x1 : Int32} {x2 : Int32} {x3 : Int32} {x4 : zq} {h : zH} {r : Int32 ⊕ Nat} {h' : zH} (H : zm273 x0 x1 x2 x3 x4 h = some (r, h')) : zAt 273 0 [some (zrv x0), some (zI x1), some (zI x2), some (zI x3), some (zrv x4), none] [] h (zoI r) h' := by
  unfold zm273 at H
  refine zA_ald rfl rfl rfl ?_
  refine zA_push rfl rfl zkk7 ?_
  refine zA_aldn rfl rfl rfl ?_
  refine zA_ldn rfl rfl rfl ?_
  refine zA_ldn rfl rfl rfl ?_
  refine zA_ldn rfl rfl rfl ?_
  obtain ⟨p21, i22, e23, c24, H⟩ := zob_e H
  rcases zbH_e H with ⟨x26, h25, C, H⟩ | ⟨E, h25, c37, C, hc, H⟩
  · refine zA_callV (as := [zrv x0, zI x1, zI x2, zI x3]) (st' := [zI (0 : Int32), zrv x4]) rfl rfl rfl (zrcv_Q e23 c24) rfl (zmE105 _ _ _ _) rfl (zmS105 C) ?_
    obtain ⟨c27, H⟩ := zif_e H
    refine zA_f2d rfl rfl c27 ?_
    obtain ⟨p28, i29, j30, e31, c32, c33, e34, H⟩ := zar_e H
    obtain ⟨h35, e36, H⟩ := zlet_e H
    refine zA_das rfl rfl e31 c32 c33 e34 e36 ?_
    refine zA_go rfl rfl ?_
    refine zA_tr (L := [none, none, none, none, none, none]) rfl rfl ?_
    refine zA_push rfl rfl zkk7 ?_
    cases H
    exact zA_ret rfl rfl
  · cases H
    exact zA_callH (as := [zrv x0, zI x1, zI x2, zI x3]) (st' := [zI (0 : Int32), zrv x4]) rfl rfl (zrcv_Q e23 c24) rfl (zmE105 _ _ _ _) rfl rfl rfl (List.cons_ne_nil _ _) hc (zmS105 C)
theorem zmE273 (x0 : zq) (x1 : Int32) (x2 : Int32) (x3 : Int32) (x4 : zq) : zpad (zPr.2.1 273).1 (zil [zrv x0, zI x1, zI x2, zI x3, zrv x4]) = [some (zrv x0), some (zI x1), some (zI x2), some (zI x3), some (zrv x4), none] := by
  simp only [zil_A, zil_I, zil_F, zil_D, zil_N]
  rfl
def zm218_44 (k25 : zq → Int32 → Int32 → Int32 → zH → zRs UInt32) (x0 : zq) (x4 : Int32) (x6 : Int32) (s0 : Int32) (s1 : Int32) (h : zH) : zRs UInt32 :=
  zlet (s0 + s1) fun x21 =>
  zlet (x6 + (1 : Int32)) fun x23 =>
  k25 x0 x4 x21 x23 h
theorem zmS218_44 {k25 : zq → Int32 → Int32 → Int32 → zH → zRs UInt32} (hk25 : ∀ (x0 : zq) (x4 : Int32) (x5 : Int32) (x6 : Int32) (h : zH) (r : UInt32 ⊕ Nat) (h' : zH), k25 x0 x4 x5 x6 h = some (r, h') → zAt 218 25 [some (zrv x0), none, none, none, some (zI x4), some (zI x5), some (zI x6)] [] h (zoF r) h') : ∀ (x0 : zq) (x4 : Int32) (x6 : Int32) (s0 : Int32) (s1 : Int32) (h : zH) (r : UInt32 ⊕ Nat) (h' : zH), zm218_44 k25 x0 x4 x6 s0 s1 h = some (r, h') → zAt 218 44 [some (zrv x0), none, none, none, some (zI x4), none, some (zI x6)] [zI s1, zI s0] h (zoF r) h' := by
  intro x0 x4 x6 s0 s1 h r h' H
  unfold zm218_44 at H
  refine zA_st (st' := [zI (s0 + s1)]) rfl rfl rfl rfl ?_
  obtain ⟨x21, e22, H⟩ := zlet_e H
  refine zA_ist2 rfl rfl e22 (zset1 (L' := [some (zrv x0), none, none, none, some (zI x4), some (zI x21), some (zI x6)]) rfl rfl (zpcV rfl rfl)) ?_
  obtain ⟨x23, e24, H⟩ := zlet_e H
  refine zA_inc rfl rfl rfl (e24.trans (congrArg (_ + ·) zkk8)) (zset1 (L' := [some (zrv x0), none, none, none, some (zI x4), some (zI x21), some (zI x23)]) rfl rfl (zpcV rfl rfl)) ?_
  refine zA_go rfl rfl ?_
  exact zA_tr (L := [some (zrv x0), none, none, none, some (zI x4), some (zI x21), some (zI x23)]) rfl rfl (hk25 _ _ _ _ _ _ _ H)
def zm218_25 (k48 : zq → Int32 → Int32 → zH → zRs UInt32) : Nat → zq → Int32 → Int32 → Int32 → zH → zRs UInt32
  | 0, _, _, _, _, _ => none
  | n + 1, x0, x4, x5, x6, h =>
    zob 12 x0 fun p21 i22 =>
    zri (zr h p21 i22 47) x4 h fun v32 =>
    if v32 ≤ x6 then
      k48 x0 x4 x5 h
    else
      zrb (zr h p21 i22 48) (((600 : Int32) * x4) + x6) h fun v42 =>
      if v42 = 0 then
        zm218_44 (zm218_25 k48 n) x0 x4 x6 x5 (0 : Int32) h
      else
        zm218_44 (zm218_25 k48 n) x0 x4 x6 x5 (1 : Int32) h
theorem zmS218_25 {k48 : zq → Int32 → Int32 → zH → zRs UInt32} (hk48 : ∀ (x0 : zq) (x4 : Int32) (x5 : Int32) (h : zH) (r : UInt32 ⊕ Nat) (h' : zH), k48 x0 x4 x5 h = some (r, h') → zAt 218 48 [some (zrv x0), none, none, none, some (zI x4), some (zI x5), none] [] h (zoF r) h') : ∀ (n : Nat) (x0 : zq) (x4 : Int32) (x5 : Int32) (x6 : Int32) (h : zH) (r : UInt32 ⊕ Nat) (h' : zH), zm218_25 k48 n x0 x4 x5 x6 h = some (r, h') → zAt 218 25 [some (zrv x0), none, none, none, some (zI x4), some (zI x5), some (zI x6)] [] h (zoF r) h' := by
  intro n
  induction n with
  | zero => intro x0 x4 x5 x6 h r h' H; cases H
  | succ n ih =>
    intro x0 x4 x5 x6 h r h' H
    unfold zm218_25 at H
    refine zA_ld rfl rfl rfl ?_
    refine zA_aldn rfl rfl rfl ?_
    obtain ⟨p21, i22, e23, c24, H⟩ := zob_e H
    refine zA_gf3 rfl rfl e23 c24 ?_
    refine zA_ld rfl rfl rfl ?_
    obtain ⟨p25, i26, j27, v32, e28, c29, c30, e31, e33, H⟩ := zri_e H
    refine zA_ial rfl rfl e28 c29 c30 e31 e33 ?_
    rcases zite_e H with ⟨c34, H⟩ | ⟨c34, H⟩
    · refine zA_brT (c := v32 ≤ x6) rfl rfl rfl c34 ?_
      exact zA_tr (L := [some (zrv x0), none, none, none, some (zI x4), some (zI x5), none]) rfl rfl (hk48 _ _ _ _ _ _ H)
    · refine zA_brF (c := v32 ≤ x6) rfl rfl rfl c34 ?_
      refine zA_ld rfl rfl rfl ?_
      refine zA_aldn rfl rfl rfl ?_
      refine zA_gf3 rfl rfl e23 c24 ?_
      refine zA_push rfl rfl zkk41 ?_
      refine zA_ld rfl rfl rfl ?_
      refine zA_st (st' := [zI ((600 : Int32) * x4), zrv (zr h p21 i22 48), zI x5]) rfl rfl rfl rfl ?_
      refine zA_ld rfl rfl rfl ?_
      refine zA_st (st' := [zI (((600 : Int32) * x4) + x6), zrv (zr h p21 i22 48), zI x5]) rfl rfl rfl rfl ?_
      obtain ⟨p35, i36, j37, v42, e38, c39, c40, e41, e43, H⟩ := zrb_e H
      refine zA_bal rfl rfl e38 c39 c40 e41 e43 ?_
      rcases zite_e H with ⟨c44, H⟩ | ⟨c44, H⟩
      · refine zA_brT (c := v42 = 0) rfl rfl rfl c44 ?_
        refine zA_tr (L := [some (zrv x0), none, none, none, some (zI x4), none, some (zI x6)]) rfl rfl ?_
        refine zA_push rfl rfl zkk7 ?_
        exact zA_tr (L := [some (zrv x0), none, none, none, some (zI x4), none, some (zI x6)]) rfl rfl (zmS218_44 ih _ _ _ _ _ _ _ _ H)
      · refine zA_brF (c := v42 = 0) rfl rfl rfl c44 ?_
        refine zA_push rfl rfl zkk5 ?_
        refine zA_go rfl rfl ?_
        exact zA_tr (L := [some (zrv x0), none, none, none, some (zI x4), none, some (zI x6)]) rfl rfl (zmS218_44 ih _ _ _ _ _ _ _ _ H)
def zm218_48 (x0 : zq) (x4 : Int32) (x5 : Int32) (h : zH) : zRs UInt32 :=
  zob 12 x0 fun p21 i22 =>
  zri (zr h p21 i22 47) x4 h fun v32 =>
  if v32 = 0 then
    some (.inl (0 : UInt32), h)
  else
    zri (zr h p21 i22 47) x4 h fun v42 =>
    zif (FP.fdiv (FP.i2f x5) (FP.i2f v42) &&& 0x7fffffff ≤ 0x7f800000) <|
    some (.inl (FP.fdiv (FP.i2f x5) (FP.i2f v42)), h)
theorem zmS218_48 : ∀ (x0 : zq) (x4 : Int32) (x5 : Int32) (h : zH) (r : UInt32 ⊕ Nat) (h' : zH), zm218_48 x0 x4 x5 h = some (r, h') → zAt 218 48 [some (zrv x0), none, none, none, some (zI x4), some (zI x5), none] [] h (zoF r) h' := by
  intro x0 x4 x5 h r h' H
  unfold zm218_48 at H
  refine zA_aldn rfl rfl rfl ?_
  obtain ⟨p21, i22, e23, c24, H⟩ := zob_e H
  refine zA_gf3 rfl rfl e23 c24 ?_
  refine zA_ld rfl rfl rfl ?_
  obtain ⟨p25, i26, j27, v32, e28, c29, c30, e31, e33, H⟩ := zri_e H
  refine zA_ial rfl rfl e28 c29 c30 e31 e33 ?_
  rcases zite_e H with ⟨c34, H⟩ | ⟨c34, H⟩
  · refine zA_brF' (c := v32 = 0) rfl rfl rfl c34 ?_
    refine zA_push rfl rfl zkk56 ?_
    refine zA_go rfl rfl ?_
    refine zA_tr (L := [none, none, none, none, none, none, none]) rfl rfl ?_
    cases H
    exact zA_ret rfl rfl
  · refine zA_brT' (c := v32 = 0) rfl rfl rfl c34 ?_
    refine zA_ld rfl rfl rfl ?_
    refine zA_st (st' := [zF (FP.i2f x5)]) rfl rfl rfl rfl ?_
    refine zA_aldn rfl rfl rfl ?_
    refine zA_gf3 rfl rfl e23 c24 ?_
    refine zA_ld rfl rfl rfl ?_
    obtain ⟨p35, i36, j37, v42, e38, c39, c40, e41, e43, H⟩ := zri_e H
    refine zA_ial rfl rfl e38 c39 c40 e41 e43 ?_
    refine zA_st (st' := [zF (FP.i2f v42), zF (FP.i2f x5)]) rfl rfl rfl rfl ?_
    obtain ⟨c44, H⟩ := zif_e H
    refine zA_fdiv rfl rfl c44 ?_
    refine zA_tr (L := [none, none, none, none, none, none, none]) rfl rfl ?_
    cases H
    exact zA_ret rfl rfl
def zm218_19 (x0 : zq) (s0 : Int32) (s1 : Int32) (h : zH) : zRs UInt32 :=
  zlet (s0 + s1) fun x21 =>
  zm218_25 (zm218_48) zN0 x0 x21 (0 : Int32) (0 : Int32) h
theorem zmS218_19 : ∀ (x0 : zq) (s0 : Int32) (s1 : Int32) (h : zH) (r : UInt32 ⊕ Nat) (h' : zH), zm218_19 x0 s0 s1 h = some (r, h') → zAt 218 19 [some (zrv x0), none, none, none, none, none, none] [zI s1, zI s0] h (zoF r) h' := by
  intro x0 s0 s1 h r h' H
  unfold zm218_19 at H
  refine zA_st (st' := [zI (s0 + s1)]) rfl rfl rfl rfl ?_
  obtain ⟨x21, e22, H⟩ := zlet_e H
  refine zA_ist2 rfl rfl e22 (zset1 (L' := [some (zrv x0), none, none, none, some (zI x21), none, none]) rfl rfl (zpcN rfl)) ?_
  refine zA_push rfl rfl zkk7 ?_
  refine zA_ist2 rfl rfl rfl (zset1 (L' := [some (zrv x0), none, none, none, some (zI x21), some (zI (0 : Int32)), none]) rfl rfl (zpcV rfl rfl)) ?_
  refine zA_push rfl rfl zkk7 ?_
  refine zA_ist2 rfl rfl rfl (zset1 (L' := [some (zrv x0), none, none, none, some (zI x21), some (zI (0 : Int32)), some (zI (0 : Int32))]) rfl rfl (zpcV rfl rfl)) ?_
  exact zA_tr (L := [some (zrv x0), none, none, none, some (zI x21), some (zI (0 : Int32)), some (zI (0 : Int32))]) rfl rfl (zmS218_25 (zmS218_48) zN0 _ _ _ _ _ _ _ H)
-- 218: ReleaseHouseModel.badPart(IIZ)F
def zm218 (x0 : zq) (x1 : Int32) (x2 : Int32) (x3 : Int32) (h : zH) : zRs UInt32 :=
  zob 12 x0 fun p21 i22 =>
  zb (zm191 x0 x1 x2 h) fun x26 h25 =>
  if x26 = 0 then
    some (.inl (0 : UInt32), h25)
  else
    if x3 = 0 then
      zm218_19 x0 ((2 : Int32) * (((3 : Int32) * x1) + x2)) (0 : Int32) h25
    else
      zm218_19 x0 ((2 : Int32) * (((3 : Int32) * x1) + x2)) (1 : Int32) h25
theorem zmS218 {x0 : zq} {x1 : Int32} {x2 : Int32} {x3 : Int32} {h : zH} {r : UInt32 ⊕ Nat} {h' : zH} (H : zm218 x0 x1 x2 x3 h = some (r, h')) : zAt 218 0 [some (zrv x0), some (zI x1), some (zI x2), some (zI x3), none, none, none] [] h (zoF r) h' := by
  unfold zm218 at H
  refine zA_aldn rfl rfl rfl ?_
  refine zA_ldn rfl rfl rfl ?_
  refine zA_ldn rfl rfl rfl ?_
  obtain ⟨p21, i22, e23, c24, H⟩ := zob_e H
  rcases zb_e H with ⟨x26, h25, C, H⟩ | ⟨E, h25, C, H⟩
  · refine zA_callV (as := [zrv x0, zI x1, zI x2]) (st' := []) rfl rfl rfl (zrcv_Q e23 c24) rfl (zmE191 _ _ _) rfl (zmS191 C) ?_
    rcases zite_e H with ⟨c27, H⟩ | ⟨c27, H⟩
    · refine zA_brF' (c := x26 = 0) rfl rfl rfl c27 ?_
      refine zA_push rfl rfl zkk56 ?_
      cases H
      exact zA_ret rfl rfl
    · refine zA_brT' (c := x26 = 0) rfl rfl rfl c27 ?_
      refine zA_push rfl rfl zkk23 ?_
      refine zA_push rfl rfl zkk3 ?_
      refine zA_ldn rfl rfl rfl ?_
      refine zA_st (st' := [zI ((3 : Int32) * x1), zI (2 : Int32)]) rfl rfl rfl rfl ?_
      refine zA_ldn rfl rfl rfl ?_
      refine zA_st (st' := [zI (((3 : Int32) * x1) + x2), zI (2 : Int32)]) rfl rfl rfl rfl ?_
      refine zA_st (st' := [zI ((2 : Int32) * (((3 : Int32) * x1) + x2))]) rfl rfl rfl rfl ?_
      refine zA_ldn rfl rfl rfl ?_
      rcases zite_e H with ⟨c28, H⟩ | ⟨c28, H⟩
      · refine zA_brT (c := x3 = 0) rfl rfl rfl c28 ?_
        refine zA_tr (L := [some (zrv x0), none, none, none, none, none, none]) rfl rfl ?_
        refine zA_push rfl rfl zkk7 ?_
        exact zA_tr (L := [some (zrv x0), none, none, none, none, none, none]) rfl rfl (zmS218_19 _ _ _ _ _ _ H)
      · refine zA_brF (c := x3 = 0) rfl rfl rfl c28 ?_
        refine zA_push rfl rfl zkk5 ?_
        refine zA_go rfl rfl ?_
        exact zA_tr (L := [some (zrv x0), none, none, none, none, none, none]) rfl rfl (zmS218_19 _ _ _ _ _ _ H)
  · cases H
    exact zA_callX (as := [zrv x0, zI x1, zI x2]) (st' := []) rfl rfl (zrcv_Q e23 c24) rfl (zmE191 _ _ _) rfl rfl rfl (zmS191 C)
theorem zmE218 (x0 : zq) (x1 : Int32) (x2 : Int32) (x3 : Int32) : zpad (zPr.2.1 218).1 (zil [zrv x0, zI x1, zI x2, zI x3]) = [some (zrv x0), some (zI x1), some (zI x2), some (zI x3), none, none, none] := by
  simp only [zil_A, zil_I, zil_F, zil_D, zil_N]
  rfl
def zm106_16 (x2 : zq) (s0 : zq) (s1 : Int32) (h : zH) : zRs Int32 :=
  zob 8 s0 fun p21 i22 =>
  zif (s1 = 0 ∨ s1 = 1) <|
  zlet (zsi h p21 i22 7 s1) fun h25 =>
  zob 8 x2 fun p28 i29 =>
  zif ((zi h25 p28 i29 7) = 0 ∨ (zi h25 p28 i29 7) = 1) <|
  some (.inl (zi h25 p28 i29 7), h25)
theorem zmS106_16 : ∀ (x2 : zq) (s0 : zq) (s1 : Int32) (h : zH) (r : Int32 ⊕ Nat) (h' : zH), zm106_16 x2 s0 s1 h = some (r, h') → zAt 106 16 [none, none, some (zrv x2)] [zI s1, zrv s0] h (zoI r) h' := by
  intro x2 s0 s1 h r h' H
  unfold zm106_16 at H
  obtain ⟨p21, i22, e23, c24, H⟩ := zob_e H
  obtain ⟨c27, H⟩ := zif_e H
  obtain ⟨h25, e26, H⟩ := zlet_e H
  refine zA_pf1 rfl rfl e23 c24 c27 e26 ?_
  refine zA_aldn rfl rfl rfl ?_
  obtain ⟨p28, i29, e30, c31, H⟩ := zob_e H
  refine zA_gf0 rfl rfl (Or.inr rfl) e30 c31 ?_
  obtain ⟨c32, H⟩ := zif_e H
  cases H
  exact zA_ret rfl (zret_Z c32)
-- 106: ReleaseHouse.hold(I)Z
def zm106 (x0 : zq) (x1 : Int32) (h : zH) : zRs Int32 :=
  zb (zm131 x1 (0 : Int32) (3 : Int32) h) fun _ h21 =>
  zob 11 x0 fun p22 i23 =>
  zra (zr h21 p22 i23 6) x1 h21 fun v33 =>
  zob 8 v33 fun p35 i36 =>
  if (zi h21 p35 i36 7) = 0 then
    zm106_16 v33 v33 (1 : Int32) h21
  else
    zm106_16 v33 v33 (0 : Int32) h21
theorem zmS106 {x0 : zq} {x1 : Int32} {h : zH} {r : Int32 ⊕ Nat} {h' : zH} (H : zm106 x0 x1 h = some (r, h')) : zAt 106 0 [some (zrv x0), some (zI x1), none] [] h (zoI r) h' := by
  unfold zm106 at H
  refine zA_ldn rfl rfl rfl ?_
  refine zA_push rfl rfl zkk7 ?_
  refine zA_push rfl rfl zkk3 ?_
  rcases zb_e H with ⟨u40, h21, C, H⟩ | ⟨E, h21, C, H⟩
  · refine zA_callU (as := [zI x1, zI (0 : Int32), zI (3 : Int32)]) (st' := []) rfl rfl rfl rfl rfl (zmE131 _ _ _) rfl (zmS131 C) ?_
    refine zA_aldn rfl rfl rfl ?_
    obtain ⟨p22, i23, e24, c25, H⟩ := zob_e H
    refine zA_gf3 rfl rfl e24 c25 ?_
    refine zA_ldn rfl rfl rfl ?_
    obtain ⟨p26, i27, j28, v33, e29, c30, c31, e32, e34, H⟩ := zra_e H
    refine zA_aal rfl rfl e29 c30 c31 e32 e34 ?_
    refine zA_astn2 rfl rfl rfl (zset1 (L' := [some (zrv x0), some (zI x1), some (zrv v33)]) (zcat_rv _) rfl (zpcV rfl rfl)) ?_
    refine zA_aldn rfl rfl rfl ?_
    refine zA_aldn rfl rfl rfl ?_
    obtain ⟨p35, i36, e37, c38, H⟩ := zob_e H
    refine zA_gf0 rfl rfl (Or.inr rfl) e37 c38 ?_
    rcases zite_e H with ⟨c39, H⟩ | ⟨c39, H⟩
    · refine zA_brF' (c := (zi h21 p35 i36 7) = 0) rfl rfl rfl c39 ?_
      refine zA_push rfl rfl zkk5 ?_
      refine zA_go rfl rfl ?_
      exact zA_tr (L := [none, none, some (zrv v33)]) rfl rfl (zmS106_16 _ _ _ _ _ _ H)
    · refine zA_brT' (c := (zi h21 p35 i36 7) = 0) rfl rfl rfl c39 ?_
      refine zA_tr (L := [none, none, some (zrv v33)]) rfl rfl ?_
      refine zA_push rfl rfl zkk7 ?_
      exact zA_tr (L := [none, none, some (zrv v33)]) rfl rfl (zmS106_16 _ _ _ _ _ _ H)
  · cases H
    exact zA_callX (as := [zI x1, zI (0 : Int32), zI (3 : Int32)]) (st' := []) rfl rfl rfl rfl (zmE131 _ _ _) rfl rfl rfl (zmS131 C)
theorem zmE106 (x0 : zq) (x1 : Int32) : zpad (zPr.2.1 106).1 (zil [zrv x0, zI x1]) = [some (zrv x0), some (zI x1), none] := by
  simp only [zil_A, zil_I, zil_F, zil_D, zil_N]
  rfl
def zm274_9 (s0 : zq) (s1 : Int32) (s2 : Int64) (h : zH) : zRs Int32 :=
  zar 3 s0 s1 h fun p21 i22 j23 =>
  zlet (zsl h p21 i22 j23 s2) fun h28 =>
  some (.inl (0 : Int32), h28)
theorem zmS274_9 : ∀ (s0 : zq) (s1 : Int32) (s2 : Int64) (h : zH) (r : Int32 ⊕ Nat) (h' : zH), zm274_9 s0 s1 s2 h = some (r, h') → zAt 274 9 [none, none, none, none] [zJ s2, zI s1, zrv s0] h (zoI r) h' := by
  intro s0 s1 s2 h r h' H
  unfold zm274_9 at H
  obtain ⟨p21, i22, j23, e24, c25, c26, e27, H⟩ := zar_e H
  obtain ⟨h28, e29, H⟩ := zlet_e H
  refine zA_las rfl rfl e24 c25 c26 e27 e29 ?_
  refine zA_go rfl rfl ?_
  refine zA_push rfl rfl zkk7 ?_
  cases H
  exact zA_ret rfl rfl
-- 274: ReleaseHouseLaw.hold(LReleaseHouse;I[J)I
def zm274 (x0 : zq) (x1 : Int32) (x2 : zq) (h : zH) : zRs Int32 :=
  zob 11 x0 fun p21 i22 =>
  zbH [(0, 10, 0, 1)] 4 (zm106 x0 x1 h) fun x26 h25 =>
  if x26 = 0 then
    zm274_9 x2 (0 : Int32) (0 : Int64) h25
  else
    zm274_9 x2 (0 : Int32) (1 : Int64) h25
theorem zmS274 {x0 : zq} {x1 : Int32} {x2 : zq} {h : zH} {r : Int32 ⊕ Nat} {h' : zH} (H : zm274 x0 x1 x2 h = some (r, h')) : zAt 274 0 [some (zrv x0), some (zI x1), some (zrv x2), none] [] h (zoI r) h' := by
  unfold zm274 at H
  refine zA_aldn rfl rfl rfl ?_
  refine zA_push rfl rfl zkk7 ?_
  refine zA_aldn rfl rfl rfl ?_
  refine zA_ldn rfl rfl rfl ?_
  obtain ⟨p21, i22, e23, c24, H⟩ := zob_e H
  rcases zbH_e H with ⟨x26, h25, C, H⟩ | ⟨E, h25, c28, C, hc, H⟩
  · refine zA_callV (as := [zrv x0, zI x1]) (st' := [zI (0 : Int32), zrv x2]) rfl rfl rfl (zrcv_Q e23 c24) rfl (zmE106 _ _) rfl (zmS106 C) ?_
    rcases zite_e H with ⟨c27, H⟩ | ⟨c27, H⟩
    · refine zA_brT (c := x26 = 0) rfl rfl rfl c27 ?_
      refine zA_tr (L := [none, none, none, none]) rfl rfl ?_
      refine zA_push rfl rfl zkk24 ?_
      exact zA_tr (L := [none, none, none, none]) rfl rfl (zmS274_9 _ _ _ _ _ _ H)
    · refine zA_brF (c := x26 = 0) rfl rfl rfl c27 ?_
      refine zA_push rfl rfl zkk25 ?_
      refine zA_go rfl rfl ?_
      exact zA_tr (L := [none, none, none, none]) rfl rfl (zmS274_9 _ _ _ _ _ _ H)
  · cases H
    exact zA_callH (as := [zrv x0, zI x1]) (st' := [zI (0 : Int32), zrv x2]) rfl rfl (zrcv_Q e23 c24) rfl (zmE106 _ _) rfl rfl rfl (List.cons_ne_nil _ _) hc (zmS106 C)
theorem zmE274 (x0 : zq) (x1 : Int32) (x2 : zq) : zpad (zPr.2.1 274).1 (zil [zrv x0, zI x1, zrv x2]) = [some (zrv x0), some (zI x1), some (zrv x2), none] := by
  simp only [zil_A, zil_I, zil_F, zil_D, zil_N]
  rfl
def zm219_24 (x0 : zq) (x1 : Int32) (s0 : zq) (s1 : Int32) (s2 : Int32) (h : zH) : zRs Int32 :=
  zar 2 s0 s1 h fun p21 i22 j23 =>
  zif (s2 = 0 ∨ s2 = 1) <|
  zlet (zsi h p21 i22 j23 s2) fun h28 =>
  zob 12 x0 fun p31 i32 =>
  zrb (zr h28 p31 i32 50) x1 h28 fun v42 =>
  zif (v42 = 0 ∨ v42 = 1) <|
  some (.inl v42, h28)
theorem zmS219_24 : ∀ (x0 : zq) (x1 : Int32) (s0 : zq) (s1 : Int32) (s2 : Int32) (h : zH) (r : Int32 ⊕ Nat) (h' : zH), zm219_24 x0 x1 s0 s1 s2 h = some (r, h') → zAt 219 24 [some (zrv x0), some (zI x1)] [zI s2, zI s1, zrv s0] h (zoI r) h' := by
  intro x0 x1 s0 s1 s2 h r h' H
  unfold zm219_24 at H
  obtain ⟨p21, i22, j23, e24, c25, c26, e27, H⟩ := zar_e H
  obtain ⟨c30, H⟩ := zif_e H
  obtain ⟨h28, e29, H⟩ := zlet_e H
  refine zA_bas rfl rfl e24 c25 c26 e27 c30 e29 ?_
  refine zA_aldn rfl rfl rfl ?_
  obtain ⟨p31, i32, e33, c34, H⟩ := zob_e H
  refine zA_gf3 rfl rfl e33 c34 ?_
  refine zA_ldn rfl rfl rfl ?_
  obtain ⟨p35, i36, j37, v42, e38, c39, c40, e41, e43, H⟩ := zrb_e H
  refine zA_bal rfl rfl e38 c39 c40 e41 e43 ?_
  obtain ⟨c44, H⟩ := zif_e H
  cases H
  exact zA_ret rfl (zret_Z c44)
def zm219_7 (x0 : zq) (x1 : Int32) (s0 : zq) (s1 : Int32) (h : zH) : zRs Int32 :=
  zob 12 s0 fun p21 i22 =>
  zlet (zsi h p21 i22 0 s1) fun h25 =>
  zob 12 x0 fun p27 i28 =>
  if (zi h25 p27 i28 0) ≤ 0 then
    zrb (zr h25 p27 i28 50) x1 h25 fun v39 =>
    if v39 = 0 then
      zm219_24 x0 x1 (zr h25 p27 i28 50) x1 (1 : Int32) h25
    else
      zm219_24 x0 x1 (zr h25 p27 i28 50) x1 (0 : Int32) h25
  else
    some (.inl (0 : Int32), h25)
theorem zmS219_7 : ∀ (x0 : zq) (x1 : Int32) (s0 : zq) (s1 : Int32) (h : zH) (r : Int32 ⊕ Nat) (h' : zH), zm219_7 x0 x1 s0 s1 h = some (r, h') → zAt 219 7 [some (zrv x0), some (zI x1)] [zI s1, zrv s0] h (zoI r) h' := by
  intro x0 x1 s0 s1 h r h' H
  unfold zm219_7 at H
  obtain ⟨p21, i22, e23, c24, H⟩ := zob_e H
  obtain ⟨h25, e26, H⟩ := zlet_e H
  refine zA_pf0 rfl rfl e23 c24 e26 ?_
  refine zA_aldn rfl rfl rfl ?_
  obtain ⟨p27, i28, e29, c30, H⟩ := zob_e H
  refine zA_gf0 rfl rfl (Or.inl rfl) e29 c30 ?_
  rcases zite_e H with ⟨c31, H⟩ | ⟨c31, H⟩
  · refine zA_brT (c := (zi h25 p27 i28 0) ≤ 0) rfl rfl rfl c31 ?_
    refine zA_aldn rfl rfl rfl ?_
    refine zA_gf3 rfl rfl e29 c30 ?_
    refine zA_ldn rfl rfl rfl ?_
    refine zA_aldn rfl rfl rfl ?_
    refine zA_gf3 rfl rfl e29 c30 ?_
    refine zA_ldn rfl rfl rfl ?_
    obtain ⟨p32, i33, j34, v39, e35, c36, c37, e38, e40, H⟩ := zrb_e H
    refine zA_bal rfl rfl e35 c36 c37 e38 e40 ?_
    rcases zite_e H with ⟨c41, H⟩ | ⟨c41, H⟩
    · refine zA_brF' (c := v39 = 0) rfl rfl rfl c41 ?_
      refine zA_push rfl rfl zkk5 ?_
      refine zA_go rfl rfl ?_
      exact zA_tr (L := [some (zrv x0), some (zI x1)]) rfl rfl (zmS219_24 _ _ _ _ _ _ _ _ H)
    · refine zA_brT' (c := v39 = 0) rfl rfl rfl c41 ?_
      refine zA_push rfl rfl zkk7 ?_
      exact zA_tr (L := [some (zrv x0), some (zI x1)]) rfl rfl (zmS219_24 _ _ _ _ _ _ _ _ H)
  · refine zA_brF (c := (zi h25 p27 i28 0) ≤ 0) rfl rfl rfl c31 ?_
    refine zA_push rfl rfl zkk7 ?_
    cases H
    exact zA_ret rfl (zret_Z (by decide))
-- 219: ReleaseHouseModel.hold(I)Z
def zm219 (x0 : zq) (x1 : Int32) (h : zH) : zRs Int32 :=
  zb (zm140 x1 h) fun x22 h21 =>
  if x22 = 0 then
    zm219_7 x0 x1 x0 (1 : Int32) h21
  else
    zm219_7 x0 x1 x0 (0 : Int32) h21
theorem zmS219 {x0 : zq} {x1 : Int32} {h : zH} {r : Int32 ⊕ Nat} {h' : zH} (H : zm219 x0 x1 h = some (r, h')) : zAt 219 0 [some (zrv x0), some (zI x1)] [] h (zoI r) h' := by
  unfold zm219 at H
  refine zA_aldn rfl rfl rfl ?_
  refine zA_ldn rfl rfl rfl ?_
  rcases zb_e H with ⟨x22, h21, C, H⟩ | ⟨E, h21, C, H⟩
  · refine zA_callV (as := [zI x1]) (st' := [zrv x0]) rfl rfl rfl rfl rfl (zmE140 _) rfl (zmS140 C) ?_
    rcases zite_e H with ⟨c23, H⟩ | ⟨c23, H⟩
    · refine zA_brT (c := x22 = 0) rfl rfl rfl c23 ?_
      refine zA_push rfl rfl zkk5 ?_
      exact zA_tr (L := [some (zrv x0), some (zI x1)]) rfl rfl (zmS219_7 _ _ _ _ _ _ _ H)
    · refine zA_brF (c := x22 = 0) rfl rfl rfl c23 ?_
      refine zA_push rfl rfl zkk7 ?_
      refine zA_go rfl rfl ?_
      exact zA_tr (L := [some (zrv x0), some (zI x1)]) rfl rfl (zmS219_7 _ _ _ _ _ _ _ H)
  · cases H
    exact zA_callX (as := [zI x1]) (st' := [zrv x0]) rfl rfl rfl rfl (zmE140 _) rfl rfl rfl (zmS140 C)
theorem zmE219 (x0 : zq) (x1 : Int32) : zpad (zPr.2.1 219).1 (zil [zrv x0, zI x1]) = [some (zrv x0), some (zI x1)] := by
  simp only [zil_A, zil_I, zil_F, zil_D, zil_N]
  rfl
-- 5: ReleaseHouse$Freeze.<init>(IIII)V
def zm5 (x0 : zq) (x1 : Int32) (x2 : Int32) (x3 : Int32) (x4 : Int32) (h : zH) : zRs Unit :=
  znn x0 fun p21 i22 =>
  zob 3 x0 fun p25 i26 =>
  zlet (zsi h p25 i26 0 x1) fun h29 =>
  zlet (zsi h29 p25 i26 1 x2) fun h31 =>
  zlet (zsi h31 p25 i26 2 x3) fun h33 =>
  zlet (zsi h33 p25 i26 3 x4) fun h35 =>
  some (.inl (), h35)
theorem zmS5 {x0 : zq} {x1 : Int32} {x2 : Int32} {x3 : Int32} {x4 : Int32} {h : zH} {r : Unit ⊕ Nat} {h' : zH} (H : zm5 x0 x1 x2 x3 x4 h = some (r, h')) : zAt 5 0 [some (zrv x0), some (zI x1), some (zI x2), some (zI x3), some (zI x4)] [] h (zoU r) h' := by
  unfold zm5 at H
  refine zA_aldn rfl rfl rfl ?_
  obtain ⟨p21, i22, e23, H⟩ := znn_e H
  refine zA_l0 rfl rfl rfl e23 ?_
  refine zA_aldn rfl rfl rfl ?_
  refine zA_ldn rfl rfl rfl ?_
  obtain ⟨p25, i26, e27, c28, H⟩ := zob_e H
  obtain ⟨h29, e30, H⟩ := zlet_e H
  refine zA_pf0 rfl rfl e27 c28 e30 ?_
  refine zA_aldn rfl rfl rfl ?_
  refine zA_ldn rfl rfl rfl ?_
  obtain ⟨h31, e32, H⟩ := zlet_e H
  refine zA_pf0 rfl rfl e27 c28 e32 ?_
  refine zA_aldn rfl rfl rfl ?_
  refine zA_ldn rfl rfl rfl ?_
  obtain ⟨h33, e34, H⟩ := zlet_e H
  refine zA_pf0 rfl rfl e27 c28 e34 ?_
  refine zA_aldn rfl rfl rfl ?_
  refine zA_ld rfl rfl rfl ?_
  obtain ⟨h35, e36, H⟩ := zlet_e H
  refine zA_pf0 rfl rfl e27 c28 e36 ?_
  cases H
  exact zA_ret rfl rfl
theorem zmE5 (x0 : zq) (x1 : Int32) (x2 : Int32) (x3 : Int32) (x4 : Int32) : zpad (zPr.2.1 5).1 (zil [zrv x0, zI x1, zI x2, zI x3, zI x4]) = [some (zrv x0), some (zI x1), some (zI x2), some (zI x3), some (zI x4)] := by
  simp only [zil_A, zil_I, zil_F, zil_D, zil_N]
  rfl
-- 107: ReleaseHouse.freeze(IIII)I
def zm107 (x0 : zq) (x1 : Int32) (x2 : Int32) (x3 : Int32) (x4 : Int32) (h : zH) : zRs Int32 :=
  zb (zm131 x1 (0 : Int32) (2 : Int32) h) fun _ h21 =>
  zb (zm131 x2 (0 : Int32) (20000 : Int32) h21) fun _ h22 =>
  zb (zm131 x3 x2 (20000 : Int32) h22) fun _ h23 =>
  zb (zm131 x4 (1 : Int32) (3 : Int32) h23) fun _ h24 =>
  zob 11 x0 fun p25 i26 =>
  zlz (zr h24 p25 i26 3) h24 fun v34 =>
  if v34 < (8 : Int32) then
    zlet (znw h24 3 0 4) fun h37 =>
    zob 3 (some (3, zct h24 3)) fun p39 i40 =>
    zb2 (zm5 (some (3, zct h24 3)) x1 x2 x3 x4 h37) fun _ h43 =>
    znn (zr h24 p25 i26 3) fun p44 i45 =>
    znn (some (3, zct h24 3)) fun p51 i52 =>
    zif ((ztg p44 == 9 && ztg p51 == 0 && (zkc p51 == zel p44 && zelB h43 p44 i45)) = true) <|
    zif (zi h43 p44 i45 1 = 1 ∧ zln h43 p44 i45 < 33) <|
    zlet (zladd h43 p44 i45 p51 i52) fun h49 =>
    zlz (zr h49 p25 i26 3) h49 fun v59 =>
    some (.inl (v59 - (1 : Int32)), h49)
  else
    some (.inr 1, zro h24 1 6)
theorem zmS107 {x0 : zq} {x1 : Int32} {x2 : Int32} {x3 : Int32} {x4 : Int32} {h : zH} {r : Int32 ⊕ Nat} {h' : zH} (H : zm107 x0 x1 x2 x3 x4 h = some (r, h')) : zAt 107 0 [some (zrv x0), some (zI x1), some (zI x2), some (zI x3), some (zI x4)] [] h (zoI r) h' := by
  unfold zm107 at H
  refine zA_ldn rfl rfl rfl ?_
  refine zA_push rfl rfl zkk7 ?_
  refine zA_push rfl rfl zkk23 ?_
  rcases zb_e H with ⟨u65, h21, C, H⟩ | ⟨E, h21, C, H⟩
  · refine zA_callU (as := [zI x1, zI (0 : Int32), zI (2 : Int32)]) (st' := []) rfl rfl rfl rfl rfl (zmE131 _ _ _) rfl (zmS131 C) ?_
    refine zA_ldn rfl rfl rfl ?_
    refine zA_push rfl rfl zkk7 ?_
    refine zA_push rfl rfl zkk46 ?_
    rcases zb_e H with ⟨u64, h22, C, H⟩ | ⟨E, h22, C, H⟩
    · refine zA_callU (as := [zI x2, zI (0 : Int32), zI (20000 : Int32)]) (st' := []) rfl rfl rfl rfl rfl (zmE131 _ _ _) rfl (zmS131 C) ?_
      refine zA_ldn rfl rfl rfl ?_
      refine zA_ldn rfl rfl rfl ?_
      refine zA_push rfl rfl zkk46 ?_
      rcases zb_e H with ⟨u63, h23, C, H⟩ | ⟨E, h23, C, H⟩
      · refine zA_callU (as := [zI x3, zI x2, zI (20000 : Int32)]) (st' := []) rfl rfl rfl rfl rfl (zmE131 _ _ _) rfl (zmS131 C) ?_
        refine zA_ld rfl rfl rfl ?_
        refine zA_push rfl rfl zkk5 ?_
        refine zA_push rfl rfl zkk3 ?_
        rcases zb_e H with ⟨u62, h24, C, H⟩ | ⟨E, h24, C, H⟩
        · refine zA_callU (as := [zI x4, zI (1 : Int32), zI (3 : Int32)]) (st' := []) rfl rfl rfl rfl rfl (zmE131 _ _ _) rfl (zmS131 C) ?_
          refine zA_aldn rfl rfl rfl ?_
          obtain ⟨p25, i26, e27, c28, H⟩ := zob_e H
          refine zA_gf3 rfl rfl e27 c28 ?_
          obtain ⟨p29, i30, v34, e31, c32, c33, e35, H⟩ := zlz_e H
          refine zA_l2 rfl rfl rfl e31 c32 c33 e35 ?_
          refine zA_push rfl rfl zkk0 ?_
          rcases zite_e H with ⟨c36, H⟩ | ⟨c36, H⟩
          · refine zA_brT (c := v34 < (8 : Int32)) rfl rfl rfl c36 ?_
            refine zA_aldn rfl rfl rfl ?_
            refine zA_gf3 rfl rfl e27 c28 ?_
            obtain ⟨h37, e38, H⟩ := zlet_e H
            refine zA_new (n := 4) rfl rfl (fun _ _ _ _ => rfl) e38 ?_
            refine zA_dup rfl rfl (zcat_rv _) ?_
            refine zA_ldn rfl rfl rfl ?_
            refine zA_ldn rfl rfl rfl ?_
            refine zA_ldn rfl rfl rfl ?_
            refine zA_ld rfl rfl rfl ?_
            obtain ⟨p39, i40, e41, c42, H⟩ := zob_e H
            obtain ⟨u61, h43, C, H⟩ := zb2_e H
            refine zA_callU (as := [zrv (some (3, zct h24 3)), zI x1, zI x2, zI x3, zI x4]) (st' := [zrv (some (3, zct h24 3)), zrv (zr h24 p25 i26 3)]) rfl rfl rfl (zrcv_Q e41 c42) rfl (zmE5 _ _ _ _ _) rfl (zmS5 C) ?_
            obtain ⟨p44, i45, e46, H⟩ := znn_e H
            obtain ⟨p51, i52, e53, H⟩ := znn_e H
            obtain ⟨c47, H⟩ := zif_e H
            obtain ⟨c48, H⟩ := zif_e H
            obtain ⟨h49, e50, H⟩ := zlet_e H
            refine zA_l4 rfl rfl rfl e46 e53 c47 c48 e50 ?_
            refine zA_pop rfl rfl rfl ?_
            refine zA_aldn rfl rfl rfl ?_
            refine zA_gf3 rfl rfl e27 c28 ?_
            obtain ⟨p54, i55, v59, e56, c57, c58, e60, H⟩ := zlz_e H
            refine zA_l2 rfl rfl rfl e56 c57 c58 e60 ?_
            refine zA_push rfl rfl zkk5 ?_
            refine zA_st (st' := [zI (v59 - (1 : Int32))]) rfl rfl rfl rfl ?_
            cases H
            exact zA_ret rfl rfl
          · refine zA_brF (c := v34 < (8 : Int32)) rfl rfl rfl c36 ?_
            cases H
            exact zA_thr rfl rfl
        · cases H
          exact zA_callX (as := [zI x4, zI (1 : Int32), zI (3 : Int32)]) (st' := []) rfl rfl rfl rfl (zmE131 _ _ _) rfl rfl rfl (zmS131 C)
      · cases H
        exact zA_callX (as := [zI x3, zI x2, zI (20000 : Int32)]) (st' := []) rfl rfl rfl rfl (zmE131 _ _ _) rfl rfl rfl (zmS131 C)
    · cases H
      exact zA_callX (as := [zI x2, zI (0 : Int32), zI (20000 : Int32)]) (st' := []) rfl rfl rfl rfl (zmE131 _ _ _) rfl rfl rfl (zmS131 C)
  · cases H
    exact zA_callX (as := [zI x1, zI (0 : Int32), zI (2 : Int32)]) (st' := []) rfl rfl rfl rfl (zmE131 _ _ _) rfl rfl rfl (zmS131 C)
theorem zmE107 (x0 : zq) (x1 : Int32) (x2 : Int32) (x3 : Int32) (x4 : Int32) : zpad (zPr.2.1 107).1 (zil [zrv x0, zI x1, zI x2, zI x3, zI x4]) = [some (zrv x0), some (zI x1), some (zI x2), some (zI x3), some (zI x4)] := by
  simp only [zil_A, zil_I, zil_F, zil_D, zil_N]
  rfl
-- 275: ReleaseHouseLaw.freeze(LReleaseHouse;IIII[J)I
def zm275 (x0 : zq) (x1 : Int32) (x2 : Int32) (x3 : Int32) (x4 : Int32) (x5 : zq) (h : zH) : zRs Int32 :=
  zob 11 x0 fun p21 i22 =>
  zbH [(0, 10, 0, 1), (0, 10, 1, 2)] 7 (zm107 x0 x1 x2 x3 x4 h) fun x26 h25 =>
  zar 3 x5 (0 : Int32) h25 fun p27 i28 j29 =>
  zlet (zsl h25 p27 i28 j29 (x26.toInt64)) fun h34 =>
  some (.inl (0 : Int32), h34)
theorem zmS275 {x0 : zq} {x1 : Int32} {x2 : Int32} {x3 : Int32} {x4 : Int32} {x5 : zq} {h : zH} {r : Int32 ⊕ Nat} {h' : zH} (H : zm275 x0 x1 x2 x3 x4 x5 h = some (r, h')) : zAt 275 0 [some (zrv x0), some (zI x1), some (zI x2), some (zI x3), some (zI x4), some (zrv x5), none] [] h (zoI r) h' := by
  unfold zm275 at H
  refine zA_ald rfl rfl rfl ?_
  refine zA_push rfl rfl zkk7 ?_
  refine zA_aldn rfl rfl rfl ?_
  refine zA_ldn rfl rfl rfl ?_
  refine zA_ldn rfl rfl rfl ?_
  refine zA_ldn rfl rfl rfl ?_
  refine zA_ld rfl rfl rfl ?_
  obtain ⟨p21, i22, e23, c24, H⟩ := zob_e H
  rcases zbH_e H with ⟨x26, h25, C, H⟩ | ⟨E, h25, c36, C, hc, H⟩
  · refine zA_callV (as := [zrv x0, zI x1, zI x2, zI x3, zI x4]) (st' := [zI (0 : Int32), zrv x5]) rfl rfl rfl (zrcv_Q e23 c24) rfl (zmE107 _ _ _ _ _) rfl (zmS107 C) ?_
    refine zA_st (st' := [zJ (x26.toInt64), zI (0 : Int32), zrv x5]) rfl rfl rfl rfl ?_
    obtain ⟨p27, i28, j29, e30, c31, c32, e33, H⟩ := zar_e H
    obtain ⟨h34, e35, H⟩ := zlet_e H
    refine zA_las rfl rfl e30 c31 c32 e33 e35 ?_
    refine zA_go rfl rfl ?_
    refine zA_tr (L := [none, none, none, none, none, none, none]) rfl rfl ?_
    refine zA_push rfl rfl zkk7 ?_
    cases H
    exact zA_ret rfl rfl
  · cases H
    exact zA_callH (as := [zrv x0, zI x1, zI x2, zI x3, zI x4]) (st' := [zI (0 : Int32), zrv x5]) rfl rfl (zrcv_Q e23 c24) rfl (zmE107 _ _ _ _ _) rfl rfl rfl (List.cons_ne_nil _ _) hc (zmS107 C)
theorem zmE275 (x0 : zq) (x1 : Int32) (x2 : Int32) (x3 : Int32) (x4 : Int32) (x5 : zq) : zpad (zPr.2.1 275).1 (zil [zrv x0, zI x1, zI x2, zI x3, zI x4, zrv x5]) = [some (zrv x0), some (zI x1), some (zI x2), some (zI x3), some (zI x4), some (zrv x5), none] := by
  simp only [zil_A, zil_I, zil_F, zil_D, zil_N]
  rfl
def zm220_28 (x0 : zq) (x1 : Int32) (x2 : Int32) (x3 : Int32) (x4 : Int32) (s0 : zq) (s1 : Int32) (h : zH) : zRs Int32 :=
  zob 12 s0 fun p21 i22 =>
  zlet (zsi h p21 i22 0 s1) fun h25 =>
  zob 12 x0 fun p27 i28 =>
  if (zi h25 p27 i28 0) ≤ 0 then
    zar 1 (zr h25 p27 i28 52) (zi h25 p27 i28 51) h25 fun p32 i33 j34 =>
    zlet (zsi h25 p32 i33 j34 x1) fun h39 =>
    zar 1 (zr h39 p27 i28 53) (zi h39 p27 i28 51) h39 fun p41 i42 j43 =>
    zlet (zsi h39 p41 i42 j43 x2) fun h48 =>
    zar 1 (zr h48 p27 i28 54) (zi h48 p27 i28 51) h48 fun p50 i51 j52 =>
    zlet (zsi h48 p50 i51 j52 x3) fun h57 =>
    zar 1 (zr h57 p27 i28 55) (zi h57 p27 i28 51) h57 fun p59 i60 j61 =>
    zlet (zsi h57 p59 i60 j61 x4) fun h66 =>
    zlet (zsi h66 p27 i28 51 ((zi h66 p27 i28 51) + (1 : Int32))) fun h68 =>
    some (.inl ((zi h68 p27 i28 51) - (1 : Int32)), h68)
  else
    some (.inl (0 : Int32), h25)
theorem zmS220_28 : ∀ (x0 : zq) (x1 : Int32) (x2 : Int32) (x3 : Int32) (x4 : Int32) (s0 : zq) (s1 : Int32) (h : zH) (r : Int32 ⊕ Nat) (h' : zH), zm220_28 x0 x1 x2 x3 x4 s0 s1 h = some (r, h') → zAt 220 28 [some (zrv x0), some (zI x1), some (zI x2), some (zI x3), some (zI x4)] [zI s1, zrv s0] h (zoI r) h' := by
  intro x0 x1 x2 x3 x4 s0 s1 h r h' H
  unfold zm220_28 at H
  obtain ⟨p21, i22, e23, c24, H⟩ := zob_e H
  obtain ⟨h25, e26, H⟩ := zlet_e H
  refine zA_pf0 rfl rfl e23 c24 e26 ?_
  refine zA_aldn rfl rfl rfl ?_
  obtain ⟨p27, i28, e29, c30, H⟩ := zob_e H
  refine zA_gf0 rfl rfl (Or.inl rfl) e29 c30 ?_
  rcases zite_e H with ⟨c31, H⟩ | ⟨c31, H⟩
  · refine zA_brT (c := (zi h25 p27 i28 0) ≤ 0) rfl rfl rfl c31 ?_
    refine zA_aldn rfl rfl rfl ?_
    refine zA_gf3 rfl rfl e29 c30 ?_
    refine zA_aldn rfl rfl rfl ?_
    refine zA_gf0 rfl rfl (Or.inl rfl) e29 c30 ?_
    refine zA_ldn rfl rfl rfl ?_
    obtain ⟨p32, i33, j34, e35, c36, c37, e38, H⟩ := zar_e H
    obtain ⟨h39, e40, H⟩ := zlet_e H
    refine zA_ias rfl rfl e35 c36 c37 e38 e40 ?_
    refine zA_aldn rfl rfl rfl ?_
    refine zA_gf3 rfl rfl e29 c30 ?_
    refine zA_aldn rfl rfl rfl ?_
    refine zA_gf0 rfl rfl (Or.inl rfl) e29 c30 ?_
    refine zA_ldn rfl rfl rfl ?_
    obtain ⟨p41, i42, j43, e44, c45, c46, e47, H⟩ := zar_e H
    obtain ⟨h48, e49, H⟩ := zlet_e H
    refine zA_ias rfl rfl e44 c45 c46 e47 e49 ?_
    refine zA_aldn rfl rfl rfl ?_
    refine zA_gf3 rfl rfl e29 c30 ?_
    refine zA_aldn rfl rfl rfl ?_
    refine zA_gf0 rfl rfl (Or.inl rfl) e29 c30 ?_
    refine zA_ldn rfl rfl rfl ?_
    obtain ⟨p50, i51, j52, e53, c54, c55, e56, H⟩ := zar_e H
    obtain ⟨h57, e58, H⟩ := zlet_e H
    refine zA_ias rfl rfl e53 c54 c55 e56 e58 ?_
    refine zA_aldn rfl rfl rfl ?_
    refine zA_gf3 rfl rfl e29 c30 ?_
    refine zA_aldn rfl rfl rfl ?_
    refine zA_gf0 rfl rfl (Or.inl rfl) e29 c30 ?_
    refine zA_ld rfl rfl rfl ?_
    obtain ⟨p59, i60, j61, e62, c63, c64, e65, H⟩ := zar_e H
    obtain ⟨h66, e67, H⟩ := zlet_e H
    refine zA_ias rfl rfl e62 c63 c64 e65 e67 ?_
    refine zA_aldn rfl rfl rfl ?_
    refine zA_dup rfl rfl (zcat_rv _) ?_
    refine zA_gf0 rfl rfl (Or.inl rfl) e29 c30 ?_
    refine zA_push rfl rfl zkk5 ?_
    refine zA_st (st' := [zI ((zi h66 p27 i28 51) + (1 : Int32)), zrv x0]) rfl rfl rfl rfl ?_
    obtain ⟨h68, e69, H⟩ := zlet_e H
    refine zA_pf0 rfl rfl e29 c30 e69 ?_
    refine zA_aldn rfl rfl rfl ?_
    refine zA_gf0 rfl rfl (Or.inl rfl) e29 c30 ?_
    refine zA_push rfl rfl zkk5 ?_
    refine zA_st (st' := [zI ((zi h68 p27 i28 51) - (1 : Int32))]) rfl rfl rfl rfl ?_
    cases H
    exact zA_ret rfl rfl
  · refine zA_brF (c := (zi h25 p27 i28 0) ≤ 0) rfl rfl rfl c31 ?_
    refine zA_push rfl rfl zkk7 ?_
    cases H
    exact zA_ret rfl rfl
-- 220: ReleaseHouseModel.freeze(IIII)I
def zm220 (x0 : zq) (x1 : Int32) (x2 : Int32) (x3 : Int32) (x4 : Int32) (h : zH) : zRs Int32 :=
  zb (zm141 x1 h) fun x22 h21 =>
  if x22 = 0 then
    zm220_28 x0 x1 x2 x3 x4 x0 (1 : Int32) h21
  else
    zb (zm139 x2 (0 : Int32) (20000 : Int32) h21) fun x25 h24 =>
    if x25 = 0 then
      zm220_28 x0 x1 x2 x3 x4 x0 (1 : Int32) h24
    else
      zb (zm139 x3 x2 (20000 : Int32) h24) fun x28 h27 =>
      if x28 = 0 then
        zm220_28 x0 x1 x2 x3 x4 x0 (1 : Int32) h27
      else
        zb (zm139 x4 (1 : Int32) (3 : Int32) h27) fun x31 h30 =>
        if x31 = 0 then
          zm220_28 x0 x1 x2 x3 x4 x0 (1 : Int32) h30
        else
          zob 12 x0 fun p33 i34 =>
          if (zi h30 p33 i34 51) = (8 : Int32) then
            zm220_28 x0 x1 x2 x3 x4 x0 (2 : Int32) h30
          else
            zm220_28 x0 x1 x2 x3 x4 x0 (0 : Int32) h30
theorem zmS220 {x0 : zq} {x1 : Int32} {x2 : Int32} {x3 : Int32} {x4 : Int32} {h : zH} {r : Int32 ⊕ Nat} {h' : zH} (H : zm220 x0 x1 x2 x3 x4 h = some (r, h')) : zAt 220 0 [some (zrv x0), some (zI x1), some (zI x2), some (zI x3), some (zI x4)] [] h (zoI r) h' := by
  unfold zm220 at H
  refine zA_aldn rfl rfl rfl ?_
  refine zA_ldn rfl rfl rfl ?_
  rcases zb_e H with ⟨x22, h21, C, H⟩ | ⟨E, h21, C, H⟩
  · refine zA_callV (as := [zI x1]) (st' := [zrv x0]) rfl rfl rfl rfl rfl (zmE141 _) rfl (zmS141 C) ?_
    rcases zite_e H with ⟨c23, H⟩ | ⟨c23, H⟩
    · refine zA_brT (c := x22 = 0) rfl rfl rfl c23 ?_
      refine zA_push rfl rfl zkk5 ?_
      refine zA_go rfl rfl ?_
      exact zA_tr (L := [some (zrv x0), some (zI x1), some (zI x2), some (zI x3), some (zI x4)]) rfl rfl (zmS220_28 _ _ _ _ _ _ _ _ _ _ H)
    · refine zA_brF (c := x22 = 0) rfl rfl rfl c23 ?_
      refine zA_ldn rfl rfl rfl ?_
      refine zA_push rfl rfl zkk7 ?_
      refine zA_push rfl rfl zkk46 ?_
      rcases zb_e H with ⟨x25, h24, C, H⟩ | ⟨E, h24, C, H⟩
      · refine zA_callV (as := [zI x2, zI (0 : Int32), zI (20000 : Int32)]) (st' := [zrv x0]) rfl rfl rfl rfl rfl (zmE139 _ _ _) rfl (zmS139 C) ?_
        rcases zite_e H with ⟨c26, H⟩ | ⟨c26, H⟩
        · refine zA_brT (c := x25 = 0) rfl rfl rfl c26 ?_
          refine zA_push rfl rfl zkk5 ?_
          refine zA_go rfl rfl ?_
          exact zA_tr (L := [some (zrv x0), some (zI x1), some (zI x2), some (zI x3), some (zI x4)]) rfl rfl (zmS220_28 _ _ _ _ _ _ _ _ _ _ H)
        · refine zA_brF (c := x25 = 0) rfl rfl rfl c26 ?_
          refine zA_ldn rfl rfl rfl ?_
          refine zA_ldn rfl rfl rfl ?_
          refine zA_push rfl rfl zkk46 ?_
          rcases zb_e H with ⟨x28, h27, C, H⟩ | ⟨E, h27, C, H⟩
          · refine zA_callV (as := [zI x3, zI x2, zI (20000 : Int32)]) (st' := [zrv x0]) rfl rfl rfl rfl rfl (zmE139 _ _ _) rfl (zmS139 C) ?_
            rcases zite_e H with ⟨c29, H⟩ | ⟨c29, H⟩
            · refine zA_brT (c := x28 = 0) rfl rfl rfl c29 ?_
              refine zA_push rfl rfl zkk5 ?_
              refine zA_go rfl rfl ?_
              exact zA_tr (L := [some (zrv x0), some (zI x1), some (zI x2), some (zI x3), some (zI x4)]) rfl rfl (zmS220_28 _ _ _ _ _ _ _ _ _ _ H)
            · refine zA_brF (c := x28 = 0) rfl rfl rfl c29 ?_
              refine zA_ld rfl rfl rfl ?_
              refine zA_push rfl rfl zkk5 ?_
              refine zA_push rfl rfl zkk3 ?_
              rcases zb_e H with ⟨x31, h30, C, H⟩ | ⟨E, h30, C, H⟩
              · refine zA_callV (as := [zI x4, zI (1 : Int32), zI (3 : Int32)]) (st' := [zrv x0]) rfl rfl rfl rfl rfl (zmE139 _ _ _) rfl (zmS139 C) ?_
                rcases zite_e H with ⟨c32, H⟩ | ⟨c32, H⟩
                · refine zA_brF' (c := x31 = 0) rfl rfl rfl c32 ?_
                  refine zA_push rfl rfl zkk5 ?_
                  refine zA_go rfl rfl ?_
                  exact zA_tr (L := [some (zrv x0), some (zI x1), some (zI x2), some (zI x3), some (zI x4)]) rfl rfl (zmS220_28 _ _ _ _ _ _ _ _ _ _ H)
                · refine zA_brT' (c := x31 = 0) rfl rfl rfl c32 ?_
                  refine zA_aldn rfl rfl rfl ?_
                  obtain ⟨p33, i34, e35, c36, H⟩ := zob_e H
                  refine zA_gf0 rfl rfl (Or.inl rfl) e35 c36 ?_
                  refine zA_push rfl rfl zkk0 ?_
                  rcases zite_e H with ⟨c37, H⟩ | ⟨c37, H⟩
                  · refine zA_brF' (c := (zi h30 p33 i34 51) = (8 : Int32)) rfl rfl rfl c37 ?_
                    refine zA_push rfl rfl zkk23 ?_
                    refine zA_go rfl rfl ?_
                    exact zA_tr (L := [some (zrv x0), some (zI x1), some (zI x2), some (zI x3), some (zI x4)]) rfl rfl (zmS220_28 _ _ _ _ _ _ _ _ _ _ H)
                  · refine zA_brT' (c := (zi h30 p33 i34 51) = (8 : Int32)) rfl rfl rfl c37 ?_
                    refine zA_push rfl rfl zkk7 ?_
                    exact zA_tr (L := [some (zrv x0), some (zI x1), some (zI x2), some (zI x3), some (zI x4)]) rfl rfl (zmS220_28 _ _ _ _ _ _ _ _ _ _ H)
              · cases H
                exact zA_callX (as := [zI x4, zI (1 : Int32), zI (3 : Int32)]) (st' := [zrv x0]) rfl rfl rfl rfl (zmE139 _ _ _) rfl rfl rfl (zmS139 C)
          · cases H
            exact zA_callX (as := [zI x3, zI x2, zI (20000 : Int32)]) (st' := [zrv x0]) rfl rfl rfl rfl (zmE139 _ _ _) rfl rfl rfl (zmS139 C)
      · cases H
        exact zA_callX (as := [zI x2, zI (0 : Int32), zI (20000 : Int32)]) (st' := [zrv x0]) rfl rfl rfl rfl (zmE139 _ _ _) rfl rfl rfl (zmS139 C)
  · cases H
    exact zA_callX (as := [zI x1]) (st' := [zrv x0]) rfl rfl rfl rfl (zmE141 _) rfl rfl rfl (zmS141 C)
theorem zmE220 (x0 : zq) (x1 : Int32) (x2 : Int32) (x3 : Int32) (x4 : Int32) : zpad (zPr.2.1 220).1 (zil [zrv x0, zI x1, zI x2, zI x3, zI x4]) = [some (zrv x0), some (zI x1), some (zI x2), some (zI x3), some (zI x4)] := by
  simp only [zil_A, zil_I, zil_F, zil_D, zil_N]
  rfl
-- 108: ReleaseHouse.except(II)I
def zm108 (x0 : zq) (x1 : Int32) (x2 : Int32) (h : zH) : zRs Int32 :=
  zob 11 x0 fun p21 i22 =>
  zlz (zr h p21 i22 2) h fun v30 =>
  zb (zm130 x1 v30 h) fun _ h32 =>
  zb (zm131 x2 (0 : Int32) (5 : Int32) h32) fun _ h33 =>
  zlg (zr h33 p21 i22 2) x1 h33 fun v40 =>
  zob 5 v40 fun p42 i43 =>
  zob 0 (zr h33 p42 i43 0) fun p46 i47 =>
  if (zi h33 p46 i47 2) = x2 then
    some (.inr 1, zro h33 1 6)
  else
    if (zi h33 p42 i43 6) = 0 then
      zb (zm10 v40 h33) fun x53 h52 =>
      if x53 = 0 then
        zlet (zsi h52 p42 i43 6 (1 : Int32)) fun h55 =>
        zlet (zsi h55 p21 i22 17 ((zi h55 p21 i22 17) + (1 : Int32))) fun h57 =>
        some (.inl (zi h57 p21 i22 17), h57)
      else
        some (.inr 1, zro h52 1 6)
    else
      some (.inr 1, zro h33 1 6)
theorem zmS108 {x0 : zq} {x1 : Int32} {x2 : Int32} {h : zH} {r : Int32 ⊕ Nat} {h' : zH} (H : zm108 x0 x1 x2 h = some (r, h')) : zAt 108 0 [some (zrv x0), some (zI x1), some (zI x2), none] [] h (zoI r) h' := by
  unfold zm108 at H
  refine zA_ldn rfl rfl rfl ?_
  refine zA_aldn rfl rfl rfl ?_
  obtain ⟨p21, i22, e23, c24, H⟩ := zob_e H
  refine zA_gf3 rfl rfl e23 c24 ?_
  obtain ⟨p25, i26, v30, e27, c28, c29, e31, H⟩ := zlz_e H
  refine zA_l2 rfl rfl rfl e27 c28 c29 e31 ?_
  rcases zb_e H with ⟨u60, h32, C, H⟩ | ⟨E, h32, C, H⟩
  · refine zA_callU (as := [zI x1, zI v30]) (st' := []) rfl rfl rfl rfl rfl (zmE130 _ _) rfl (zmS130 C) ?_
    refine zA_ldn rfl rfl rfl ?_
    refine zA_push rfl rfl zkk7 ?_
    refine zA_push rfl rfl zkk20 ?_
    rcases zb_e H with ⟨u59, h33, C, H⟩ | ⟨E, h33, C, H⟩
    · refine zA_callU (as := [zI x2, zI (0 : Int32), zI (5 : Int32)]) (st' := []) rfl rfl rfl rfl rfl (zmE131 _ _ _) rfl (zmS131 C) ?_
      refine zA_aldn rfl rfl rfl ?_
      refine zA_gf3 rfl rfl e23 c24 ?_
      refine zA_ldn rfl rfl rfl ?_
      obtain ⟨p34, i35, v40, e36, c37, c38, c39, e41, H⟩ := zlg_e H
      refine zA_l3 rfl rfl rfl e36 c37 c38 c39 e41 ?_
      obtain ⟨p42, i43, e44, c45, H⟩ := zob_e H
      refine zA_cast rfl rfl e44 c45 ?_
      refine zA_astn2 rfl rfl rfl (zset1 (L' := [some (zrv x0), some (zI x1), some (zI x2), some (zrv v40)]) (zcat_rv _) rfl (zpcV rfl rfl)) ?_
      refine zA_aldn rfl rfl rfl ?_
      refine zA_gf3 rfl rfl e44 c45 ?_
      obtain ⟨p46, i47, e48, c49, H⟩ := zob_e H
      refine zA_gf0 rfl rfl (Or.inl rfl) e48 c49 ?_
      refine zA_ldn rfl rfl rfl ?_
      rcases zite_e H with ⟨c50, H⟩ | ⟨c50, H⟩
      · refine zA_brT (c := (zi h33 p46 i47 2) = x2) rfl rfl rfl c50 ?_
        refine zA_tr (L := [none, none, none, none]) rfl rfl ?_
        cases H
        exact zA_thr rfl rfl
      · refine zA_brF (c := (zi h33 p46 i47 2) = x2) rfl rfl rfl c50 ?_
        refine zA_aldn rfl rfl rfl ?_
        refine zA_gf0 rfl rfl (Or.inr rfl) e44 c45 ?_
        rcases zite_e H with ⟨c51, H⟩ | ⟨c51, H⟩
        · refine zA_brF' (c := (zi h33 p42 i43 6) = 0) rfl rfl rfl c51 ?_
          refine zA_aldn rfl rfl rfl ?_
          rcases zb_e H with ⟨x53, h52, C, H⟩ | ⟨E, h52, C, H⟩
          · refine zA_callV (as := [zrv v40]) (st' := []) rfl rfl rfl (zrcv_Q e44 c45) rfl (zmE10 _) rfl (zmS10 C) ?_
            rcases zite_e H with ⟨c54, H⟩ | ⟨c54, H⟩
            · refine zA_brT (c := x53 = 0) rfl rfl rfl c54 ?_
              refine zA_tr (L := [some (zrv x0), none, none, some (zrv v40)]) rfl rfl ?_
              refine zA_aldn rfl rfl rfl ?_
              refine zA_push rfl rfl zkk5 ?_
              obtain ⟨h55, e56, H⟩ := zlet_e H
              refine zA_pf1 rfl rfl e44 c45 (by decide) e56 ?_
              refine zA_aldn rfl rfl rfl ?_
              refine zA_dup rfl rfl (zcat_rv _) ?_
              refine zA_gf0 rfl rfl (Or.inl rfl) e23 c24 ?_
              refine zA_push rfl rfl zkk5 ?_
              refine zA_st (st' := [zI ((zi h55 p21 i22 17) + (1 : Int32)), zrv x0]) rfl rfl rfl rfl ?_
              obtain ⟨h57, e58, H⟩ := zlet_e H
              refine zA_pf0 rfl rfl e23 c24 e58 ?_
              refine zA_aldn rfl rfl rfl ?_
              refine zA_gf0 rfl rfl (Or.inl rfl) e23 c24 ?_
              cases H
              exact zA_ret rfl rfl
            · refine zA_brF (c := x53 = 0) rfl rfl rfl c54 ?_
              refine zA_tr (L := [none, none, none, none]) rfl rfl ?_
              cases H
              exact zA_thr rfl rfl
          · cases H
            exact zA_callX (as := [zrv v40]) (st' := []) rfl rfl (zrcv_Q e44 c45) rfl (zmE10 _) rfl rfl rfl (zmS10 C)
        · refine zA_brT' (c := (zi h33 p42 i43 6) = 0) rfl rfl rfl c51 ?_
          refine zA_tr (L := [none, none, none, none]) rfl rfl ?_
          cases H
          exact zA_thr rfl rfl
    · cases H
      exact zA_callX (as := [zI x2, zI (0 : Int32), zI (5 : Int32)]) (st' := []) rfl rfl rfl rfl (zmE131 _ _ _) rfl rfl rfl (zmS131 C)
  · cases H
    exact zA_callX (as := [zI x1, zI v30]) (st' := []) rfl rfl rfl rfl (zmE130 _ _) rfl rfl rfl (zmS130 C)
theorem zmE108 (x0 : zq) (x1 : Int32) (x2 : Int32) : zpad (zPr.2.1 108).1 (zil [zrv x0, zI x1, zI x2]) = [some (zrv x0), some (zI x1), some (zI x2), none] := by
  simp only [zil_A, zil_I, zil_F, zil_D, zil_N]
  rfl
-- 276: ReleaseHouseLaw.except(LReleaseHouse;II[J)I
def zm276 (x0 : zq) (x1 : Int32) (x2 : Int32) (x3 : zq) (h : zH) : zRs Int32 :=
  zob 11 x0 fun p21 i22 =>
  zbH [(0, 8, 2, 1), (0, 8, 0, 2), (0, 8, 1, 3)] 5 (zm108 x0 x1 x2 h) fun x26 h25 =>
  zar 3 x3 (0 : Int32) h25 fun p27 i28 j29 =>
  zlet (zsl h25 p27 i28 j29 (x26.toInt64)) fun h34 =>
  some (.inl (0 : Int32), h34)
theorem zmS276 {x0 : zq} {x1 : Int32} {x2 : Int32} {x3 : zq} {h : zH} {r : Int32 ⊕ Nat} {h' : zH} (H : zm276 x0 x1 x2 x3 h = some (r, h')) : zAt 276 0 [some (zrv x0), some (zI x1), some (zI x2), some (zrv x3), none] [] h (zoI r) h' := by
  unfold zm276 at H
  refine zA_aldn rfl rfl rfl ?_
  refine zA_push rfl rfl zkk7 ?_
  refine zA_aldn rfl rfl rfl ?_
  refine zA_ldn rfl rfl rfl ?_
  refine zA_ldn rfl rfl rfl ?_
  obtain ⟨p21, i22, e23, c24, H⟩ := zob_e H
  rcases zbH_e H with ⟨x26, h25, C, H⟩ | ⟨E, h25, c36, C, hc, H⟩
  · refine zA_callV (as := [zrv x0, zI x1, zI x2]) (st' := [zI (0 : Int32), zrv x3]) rfl rfl rfl (zrcv_Q e23 c24) rfl (zmE108 _ _ _) rfl (zmS108 C) ?_
    refine zA_st (st' := [zJ (x26.toInt64), zI (0 : Int32), zrv x3]) rfl rfl rfl rfl ?_
    obtain ⟨p27, i28, j29, e30, c31, c32, e33, H⟩ := zar_e H
    obtain ⟨h34, e35, H⟩ := zlet_e H
    refine zA_las rfl rfl e30 c31 c32 e33 e35 ?_
    refine zA_go rfl rfl ?_
    refine zA_tr (L := [none, none, none, none, none]) rfl rfl ?_
    refine zA_push rfl rfl zkk7 ?_
    cases H
    exact zA_ret rfl rfl
  · cases H
    exact zA_callH (as := [zrv x0, zI x1, zI x2]) (st' := [zI (0 : Int32), zrv x3]) rfl rfl (zrcv_Q e23 c24) rfl (zmE108 _ _ _) rfl rfl rfl (List.cons_ne_nil _ _) hc (zmS108 C)
theorem zmE276 (x0 : zq) (x1 : Int32) (x2 : Int32) (x3 : zq) : zpad (zPr.2.1 276).1 (zil [zrv x0, zI x1, zI x2, zrv x3]) = [some (zrv x0), some (zI x1), some (zI x2), some (zrv x3), none] := by
  simp only [zil_A, zil_I, zil_F, zil_D, zil_N]
  rfl
def zm221_35 (x0 : zq) (x1 : Int32) (s0 : zq) (s1 : Int32) (h : zH) : zRs Int32 :=
  zob 12 s0 fun p21 i22 =>
  zlet (zsi h p21 i22 0 s1) fun h25 =>
  zob 12 x0 fun p27 i28 =>
  if (zi h25 p27 i28 0) ≤ 0 then
    zar 2 (zr h25 p27 i28 38) x1 h25 fun p32 i33 j34 =>
    zlet (zsi h25 p32 i33 j34 (1 : Int32)) fun h39 =>
    zlet (zsi h39 p27 i28 39 ((zi h39 p27 i28 39) + (1 : Int32))) fun h41 =>
    some (.inl (zi h41 p27 i28 39), h41)
  else
    some (.inl (0 : Int32), h25)
theorem zmS221_35 : ∀ (x0 : zq) (x1 : Int32) (s0 : zq) (s1 : Int32) (h : zH) (r : Int32 ⊕ Nat) (h' : zH), zm221_35 x0 x1 s0 s1 h = some (r, h') → zAt 221 35 [some (zrv x0), some (zI x1), none] [zI s1, zrv s0] h (zoI r) h' := by
  intro x0 x1 s0 s1 h r h' H
  unfold zm221_35 at H
  obtain ⟨p21, i22, e23, c24, H⟩ := zob_e H
  obtain ⟨h25, e26, H⟩ := zlet_e H
  refine zA_pf0 rfl rfl e23 c24 e26 ?_
  refine zA_aldn rfl rfl rfl ?_
  obtain ⟨p27, i28, e29, c30, H⟩ := zob_e H
  refine zA_gf0 rfl rfl (Or.inl rfl) e29 c30 ?_
  rcases zite_e H with ⟨c31, H⟩ | ⟨c31, H⟩
  · refine zA_brT (c := (zi h25 p27 i28 0) ≤ 0) rfl rfl rfl c31 ?_
    refine zA_aldn rfl rfl rfl ?_
    refine zA_gf3 rfl rfl e29 c30 ?_
    refine zA_ldn rfl rfl rfl ?_
    refine zA_push rfl rfl zkk5 ?_
    obtain ⟨p32, i33, j34, e35, c36, c37, e38, H⟩ := zar_e H
    obtain ⟨h39, e40, H⟩ := zlet_e H
    refine zA_bas rfl rfl e35 c36 c37 e38 (by decide) e40 ?_
    refine zA_aldn rfl rfl rfl ?_
    refine zA_dup rfl rfl (zcat_rv _) ?_
    refine zA_gf0 rfl rfl (Or.inl rfl) e29 c30 ?_
    refine zA_push rfl rfl zkk5 ?_
    refine zA_st (st' := [zI ((zi h39 p27 i28 39) + (1 : Int32)), zrv x0]) rfl rfl rfl rfl ?_
    obtain ⟨h41, e42, H⟩ := zlet_e H
    refine zA_pf0 rfl rfl e29 c30 e42 ?_
    refine zA_aldn rfl rfl rfl ?_
    refine zA_gf0 rfl rfl (Or.inl rfl) e29 c30 ?_
    cases H
    exact zA_ret rfl rfl
  · refine zA_brF (c := (zi h25 p27 i28 0) ≤ 0) rfl rfl rfl c31 ?_
    refine zA_push rfl rfl zkk7 ?_
    cases H
    exact zA_ret rfl rfl
-- 221: ReleaseHouseModel.except(II)I
def zm221 (x0 : zq) (x1 : Int32) (x2 : Int32) (h : zH) : zRs Int32 :=
  zob 12 x0 fun p21 i22 =>
  zb (zm143 x0 x1 h) fun x26 h25 =>
  if x26 = 0 then
    zm221_35 x0 x1 x0 (1 : Int32) h25
  else
    zb (zm139 x2 (0 : Int32) (5 : Int32) h25) fun x29 h28 =>
    if x29 = 0 then
      zm221_35 x0 x1 x0 (2 : Int32) h28
    else
      zri (zr h28 p21 i22 31) x1 h28 fun v38 =>
      zri (zr h28 p21 i22 4) v38 h28 fun v47 =>
      if v47 = x2 then
        zm221_35 x0 x1 x0 (3 : Int32) h28
      else
        zrb (zr h28 p21 i22 38) x1 h28 fun v57 =>
        if v57 = 0 then
          zb (zm156 x0 x1 h28) fun x61 h60 =>
          if x61 = 0 then
            zm221_35 x0 x1 x0 (0 : Int32) h60
          else
            zm221_35 x0 x1 x0 (3 : Int32) h60
        else
          zm221_35 x0 x1 x0 (3 : Int32) h28
theorem zmS221 {x0 : zq} {x1 : Int32} {x2 : Int32} {h : zH} {r : Int32 ⊕ Nat} {h' : zH} (H : zm221 x0 x1 x2 h = some (r, h')) : zAt 221 0 [some (zrv x0), some (zI x1), some (zI x2)] [] h (zoI r) h' := by
  unfold zm221 at H
  refine zA_aldn rfl rfl rfl ?_
  refine zA_aldn rfl rfl rfl ?_
  refine zA_ldn rfl rfl rfl ?_
  obtain ⟨p21, i22, e23, c24, H⟩ := zob_e H
  rcases zb_e H with ⟨x26, h25, C, H⟩ | ⟨E, h25, C, H⟩
  · refine zA_callV (as := [zrv x0, zI x1]) (st' := [zrv x0]) rfl rfl rfl (zrcv_Q e23 c24) rfl (zmE143 _ _) rfl (zmS143 C) ?_
    rcases zite_e H with ⟨c27, H⟩ | ⟨c27, H⟩
    · refine zA_brF' (c := x26 = 0) rfl rfl rfl c27 ?_
      refine zA_push rfl rfl zkk5 ?_
      refine zA_go rfl rfl ?_
      exact zA_tr (L := [some (zrv x0), some (zI x1), none]) rfl rfl (zmS221_35 _ _ _ _ _ _ _ H)
    · refine zA_brT' (c := x26 = 0) rfl rfl rfl c27 ?_
      refine zA_ldn rfl rfl rfl ?_
      refine zA_push rfl rfl zkk7 ?_
      refine zA_push rfl rfl zkk20 ?_
      rcases zb_e H with ⟨x29, h28, C, H⟩ | ⟨E, h28, C, H⟩
      · refine zA_callV (as := [zI x2, zI (0 : Int32), zI (5 : Int32)]) (st' := [zrv x0]) rfl rfl rfl rfl rfl (zmE139 _ _ _) rfl (zmS139 C) ?_
        rcases zite_e H with ⟨c30, H⟩ | ⟨c30, H⟩
        · refine zA_brF' (c := x29 = 0) rfl rfl rfl c30 ?_
          refine zA_push rfl rfl zkk23 ?_
          refine zA_go rfl rfl ?_
          exact zA_tr (L := [some (zrv x0), some (zI x1), none]) rfl rfl (zmS221_35 _ _ _ _ _ _ _ H)
        · refine zA_brT' (c := x29 = 0) rfl rfl rfl c30 ?_
          refine zA_aldn rfl rfl rfl ?_
          refine zA_gf3 rfl rfl e23 c24 ?_
          refine zA_aldn rfl rfl rfl ?_
          refine zA_gf3 rfl rfl e23 c24 ?_
          refine zA_ldn rfl rfl rfl ?_
          obtain ⟨p31, i32, j33, v38, e34, c35, c36, e37, e39, H⟩ := zri_e H
          refine zA_ial rfl rfl e34 c35 c36 e37 e39 ?_
          obtain ⟨p40, i41, j42, v47, e43, c44, c45, e46, e48, H⟩ := zri_e H
          refine zA_ial rfl rfl e43 c44 c45 e46 e48 ?_
          refine zA_ldn rfl rfl rfl ?_
          rcases zite_e H with ⟨c49, H⟩ | ⟨c49, H⟩
          · refine zA_brT (c := v47 = x2) rfl rfl rfl c49 ?_
            refine zA_tr (L := [some (zrv x0), some (zI x1), none]) rfl rfl ?_
            refine zA_push rfl rfl zkk3 ?_
            refine zA_go rfl rfl ?_
            exact zA_tr (L := [some (zrv x0), some (zI x1), none]) rfl rfl (zmS221_35 _ _ _ _ _ _ _ H)
          · refine zA_brF (c := v47 = x2) rfl rfl rfl c49 ?_
            refine zA_aldn rfl rfl rfl ?_
            refine zA_gf3 rfl rfl e23 c24 ?_
            refine zA_ldn rfl rfl rfl ?_
            obtain ⟨p50, i51, j52, v57, e53, c54, c55, e56, e58, H⟩ := zrb_e H
            refine zA_bal rfl rfl e53 c54 c55 e56 e58 ?_
            rcases zite_e H with ⟨c59, H⟩ | ⟨c59, H⟩
            · refine zA_brF' (c := v57 = 0) rfl rfl rfl c59 ?_
              refine zA_aldn rfl rfl rfl ?_
              refine zA_ldn rfl rfl rfl ?_
              rcases zb_e H with ⟨x61, h60, C, H⟩ | ⟨E, h60, C, H⟩
              · refine zA_callV (as := [zrv x0, zI x1]) (st' := [zrv x0]) rfl rfl rfl (zrcv_Q e23 c24) rfl (zmE156 _ _) rfl (zmS156 C) ?_
                rcases zite_e H with ⟨c62, H⟩ | ⟨c62, H⟩
                · refine zA_brT (c := x61 = 0) rfl rfl rfl c62 ?_
                  refine zA_tr (L := [some (zrv x0), some (zI x1), none]) rfl rfl ?_
                  refine zA_push rfl rfl zkk7 ?_
                  exact zA_tr (L := [some (zrv x0), some (zI x1), none]) rfl rfl (zmS221_35 _ _ _ _ _ _ _ H)
                · refine zA_brF (c := x61 = 0) rfl rfl rfl c62 ?_
                  refine zA_tr (L := [some (zrv x0), some (zI x1), none]) rfl rfl ?_
                  refine zA_push rfl rfl zkk3 ?_
                  refine zA_go rfl rfl ?_
                  exact zA_tr (L := [some (zrv x0), some (zI x1), none]) rfl rfl (zmS221_35 _ _ _ _ _ _ _ H)
              · cases H
                exact zA_callX (as := [zrv x0, zI x1]) (st' := [zrv x0]) rfl rfl (zrcv_Q e23 c24) rfl (zmE156 _ _) rfl rfl rfl (zmS156 C)
            · refine zA_brT' (c := v57 = 0) rfl rfl rfl c59 ?_
              refine zA_tr (L := [some (zrv x0), some (zI x1), none]) rfl rfl ?_
              refine zA_push rfl rfl zkk3 ?_
              refine zA_go rfl rfl ?_
              exact zA_tr (L := [some (zrv x0), some (zI x1), none]) rfl rfl (zmS221_35 _ _ _ _ _ _ _ H)
      · cases H
        exact zA_callX (as := [zI x2, zI (0 : Int32), zI (5 : Int32)]) (st' := [zrv x0]) rfl rfl rfl rfl (zmE139 _ _ _) rfl rfl rfl (zmS139 C)
  · cases H
    exact zA_callX (as := [zrv x0, zI x1]) (st' := [zrv x0]) rfl rfl (zrcv_Q e23 c24) rfl (zmE143 _ _) rfl rfl rfl (zmS143 C)
theorem zmE221 (x0 : zq) (x1 : Int32) (x2 : Int32) : zpad (zPr.2.1 221).1 (zil [zrv x0, zI x1, zI x2]) = [some (zrv x0), some (zI x1), some (zI x2)] := by
  simp only [zil_A, zil_I, zil_F, zil_D, zil_N]
  rfl
-- 109: ReleaseHouse.zone(II)Z
def zm109 (x0 : zq) (x1 : Int32) (x2 : Int32) (h : zH) : zRs Int32 :=
  zb (zm131 x1 (0 : Int32) (2 : Int32) h) fun _ h21 =>
  zb (zm131 x2 (0 : Int32) (2 : Int32) h21) fun _ h22 =>
  zob 11 x0 fun p23 i24 =>
  zri (zr h22 p23 i24 8) x1 h22 fun v34 =>
  zar 1 (zr h22 p23 i24 8) x1 h22 fun p36 i37 j38 =>
  zlet (zsi h22 p36 i37 j38 (v34 ^^^ ((1 : Int32) <<< (x2 &&& 31)))) fun h43 =>
  zri (zr h43 p23 i24 8) x1 h43 fun v52 =>
  zb (zm133 v52 x2 h43) fun x55 h54 =>
  zif (x55 = 0 ∨ x55 = 1) <|
  some (.inl x55, h54)
theorem zmS109 {x0 : zq} {x1 : Int32} {x2 : Int32} {h : zH} {r : Int32 ⊕ Nat} {h' : zH} (H : zm109 x0 x1 x2 h = some (r, h')) : zAt 109 0 [some (zrv x0), some (zI x1), some (zI x2)] [] h (zoI r) h' := by
  unfold zm109 at H
  refine zA_ldn rfl rfl rfl ?_
  refine zA_push rfl rfl zkk7 ?_
  refine zA_push rfl rfl zkk23 ?_
  rcases zb_e H with ⟨u58, h21, C, H⟩ | ⟨E, h21, C, H⟩
  · refine zA_callU (as := [zI x1, zI (0 : Int32), zI (2 : Int32)]) (st' := []) rfl rfl rfl rfl rfl (zmE131 _ _ _) rfl (zmS131 C) ?_
    refine zA_ldn rfl rfl rfl ?_
    refine zA_push rfl rfl zkk7 ?_
    refine zA_push rfl rfl zkk23 ?_
    rcases zb_e H with ⟨u57, h22, C, H⟩ | ⟨E, h22, C, H⟩
    · refine zA_callU (as := [zI x2, zI (0 : Int32), zI (2 : Int32)]) (st' := []) rfl rfl rfl rfl rfl (zmE131 _ _ _) rfl (zmS131 C) ?_
      refine zA_aldn rfl rfl rfl ?_
      obtain ⟨p23, i24, e25, c26, H⟩ := zob_e H
      refine zA_gf3 rfl rfl e25 c26 ?_
      refine zA_ldn rfl rfl rfl ?_
      refine zA_dup2 rfl rfl rfl (zcat_rv _) ?_
      obtain ⟨p27, i28, j29, v34, e30, c31, c32, e33, e35, H⟩ := zri_e H
      refine zA_ial rfl rfl e30 c31 c32 e33 e35 ?_
      refine zA_push rfl rfl zkk5 ?_
      refine zA_ldn rfl rfl rfl ?_
      refine zA_st (st' := [zI ((1 : Int32) <<< (x2 &&& 31)), zI v34, zI x1, zrv (zr h22 p23 i24 8)]) rfl rfl rfl rfl ?_
      refine zA_st (st' := [zI (v34 ^^^ ((1 : Int32) <<< (x2 &&& 31))), zI x1, zrv (zr h22 p23 i24 8)]) rfl rfl rfl rfl ?_
      obtain ⟨p36, i37, j38, e39, c40, c41, e42, H⟩ := zar_e H
      obtain ⟨h43, e44, H⟩ := zlet_e H
      refine zA_ias rfl rfl e39 c40 c41 e42 e44 ?_
      refine zA_aldn rfl rfl rfl ?_
      refine zA_gf3 rfl rfl e25 c26 ?_
      refine zA_ldn rfl rfl rfl ?_
      obtain ⟨p45, i46, j47, v52, e48, c49, c50, e51, e53, H⟩ := zri_e H
      refine zA_ial rfl rfl e48 c49 c50 e51 e53 ?_
      refine zA_ldn rfl rfl rfl ?_
      rcases zb_e H with ⟨x55, h54, C, H⟩ | ⟨E, h54, C, H⟩
      · refine zA_callV (as := [zI v52, zI x2]) (st' := []) rfl rfl rfl rfl rfl (zmE133 _ _) rfl (zmS133 C) ?_
        obtain ⟨c56, H⟩ := zif_e H
        cases H
        exact zA_ret rfl (zret_Z c56)
      · cases H
        exact zA_callX (as := [zI v52, zI x2]) (st' := []) rfl rfl rfl rfl (zmE133 _ _) rfl rfl rfl (zmS133 C)
    · cases H
      exact zA_callX (as := [zI x2, zI (0 : Int32), zI (2 : Int32)]) (st' := []) rfl rfl rfl rfl (zmE131 _ _ _) rfl rfl rfl (zmS131 C)
  · cases H
    exact zA_callX (as := [zI x1, zI (0 : Int32), zI (2 : Int32)]) (st' := []) rfl rfl rfl rfl (zmE131 _ _ _) rfl rfl rfl (zmS131 C)
theorem zmE109 (x0 : zq) (x1 : Int32) (x2 : Int32) : zpad (zPr.2.1 109).1 (zil [zrv x0, zI x1, zI x2]) = [some (zrv x0), some (zI x1), some (zI x2)] := by
  simp only [zil_A, zil_I, zil_F, zil_D, zil_N]
  rfl
def zm277_10 (s0 : zq) (s1 : Int32) (s2 : Int64) (h : zH) : zRs Int32 :=
  zar 3 s0 s1 h fun p21 i22 j23 =>
  zlet (zsl h p21 i22 j23 s2) fun h28 =>
  some (.inl (0 : Int32), h28)
theorem zmS277_10 : ∀ (s0 : zq) (s1 : Int32) (s2 : Int64) (h : zH) (r : Int32 ⊕ Nat) (h' : zH), zm277_10 s0 s1 s2 h = some (r, h') → zAt 277 10 [none, none, none, none, none] [zJ s2, zI s1, zrv s0] h (zoI r) h' := by
  intro s0 s1 s2 h r h' H
  unfold zm277_10 at H
  obtain ⟨p21, i22, j23, e24, c25, c26, e27, H⟩ := zar_e H
  obtain ⟨h28, e29, H⟩ := zlet_e H
  refine zA_las rfl rfl e24 c25 c26 e27 e29 ?_
  refine zA_go rfl rfl ?_
  refine zA_push rfl rfl zkk7 ?_
  cases H
  exact zA_ret rfl rfl
-- 277: ReleaseHouseLaw.zone(LReleaseHouse;II[J)I
def zm277 (x0 : zq) (x1 : Int32) (x2 : Int32) (x3 : zq) (h : zH) : zRs Int32 :=
  zob 11 x0 fun p21 i22 =>
  zbH [(0, 11, 0, 1)] 5 (zm109 x0 x1 x2 h) fun x26 h25 =>
  if x26 = 0 then
    zm277_10 x3 (0 : Int32) (0 : Int64) h25
  else
    zm277_10 x3 (0 : Int32) (1 : Int64) h25
theorem zmS277 {x0 : zq} {x1 : Int32} {x2 : Int32} {x3 : zq} {h : zH} {r : Int32 ⊕ Nat} {h' : zH} (H : zm277 x0 x1 x2 x3 h = some (r, h')) : zAt 277 0 [some (zrv x0), some (zI x1), some (zI x2), some (zrv x3), none] [] h (zoI r) h' := by
  unfold zm277 at H
  refine zA_aldn rfl rfl rfl ?_
  refine zA_push rfl rfl zkk7 ?_
  refine zA_aldn rfl rfl rfl ?_
  refine zA_ldn rfl rfl rfl ?_
  refine zA_ldn rfl rfl rfl ?_
  obtain ⟨p21, i22, e23, c24, H⟩ := zob_e H
  rcases zbH_e H with ⟨x26, h25, C, H⟩ | ⟨E, h25, c28, C, hc, H⟩
  · refine zA_callV (as := [zrv x0, zI x1, zI x2]) (st' := [zI (0 : Int32), zrv x3]) rfl rfl rfl (zrcv_Q e23 c24) rfl (zmE109 _ _ _) rfl (zmS109 C) ?_
    rcases zite_e H with ⟨c27, H⟩ | ⟨c27, H⟩
    · refine zA_brT (c := x26 = 0) rfl rfl rfl c27 ?_
      refine zA_tr (L := [none, none, none, none, none]) rfl rfl ?_
      refine zA_push rfl rfl zkk24 ?_
      exact zA_tr (L := [none, none, none, none, none]) rfl rfl (zmS277_10 _ _ _ _ _ _ H)
    · refine zA_brF (c := x26 = 0) rfl rfl rfl c27 ?_
      refine zA_push rfl rfl zkk25 ?_
      refine zA_go rfl rfl ?_
      exact zA_tr (L := [none, none, none, none, none]) rfl rfl (zmS277_10 _ _ _ _ _ _ H)
  · cases H
    exact zA_callH (as := [zrv x0, zI x1, zI x2]) (st' := [zI (0 : Int32), zrv x3]) rfl rfl (zrcv_Q e23 c24) rfl (zmE109 _ _ _) rfl rfl rfl (List.cons_ne_nil _ _) hc (zmS109 C)
theorem zmE277 (x0 : zq) (x1 : Int32) (x2 : Int32) (x3 : zq) : zpad (zPr.2.1 277).1 (zil [zrv x0, zI x1, zI x2, zrv x3]) = [some (zrv x0), some (zI x1), some (zI x2), some (zrv x3), none] := by
  simp only [zil_A, zil_I, zil_F, zil_D, zil_N]
  rfl
def zm222_37 (x0 : zq) (x1 : Int32) (x2 : Int32) (s0 : zq) (s1 : Int32) (s2 : Int32) (h : zH) : zRs Int32 :=
  zar 2 s0 s1 h fun p21 i22 j23 =>
  zif (s2 = 0 ∨ s2 = 1) <|
  zlet (zsi h p21 i22 j23 s2) fun h28 =>
  zob 12 x0 fun p31 i32 =>
  zrb (zr h28 p31 i32 56) (((3 : Int32) * x1) + x2) h28 fun v42 =>
  zif (v42 = 0 ∨ v42 = 1) <|
  some (.inl v42, h28)
theorem zmS222_37 : ∀ (x0 : zq) (x1 : Int32) (x2 : Int32) (s0 : zq) (s1 : Int32) (s2 : Int32) (h : zH) (r : Int32 ⊕ Nat) (h' : zH), zm222_37 x0 x1 x2 s0 s1 s2 h = some (r, h') → zAt 222 37 [some (zrv x0), some (zI x1), some (zI x2)] [zI s2, zI s1, zrv s0] h (zoI r) h' := by
  intro x0 x1 x2 s0 s1 s2 h r h' H
  unfold zm222_37 at H
  obtain ⟨p21, i22, j23, e24, c25, c26, e27, H⟩ := zar_e H
  obtain ⟨c30, H⟩ := zif_e H
  obtain ⟨h28, e29, H⟩ := zlet_e H
  refine zA_bas rfl rfl e24 c25 c26 e27 c30 e29 ?_
  refine zA_aldn rfl rfl rfl ?_
  obtain ⟨p31, i32, e33, c34, H⟩ := zob_e H
  refine zA_gf3 rfl rfl e33 c34 ?_
  refine zA_push rfl rfl zkk3 ?_
  refine zA_ldn rfl rfl rfl ?_
  refine zA_st (st' := [zI ((3 : Int32) * x1), zrv (zr h28 p31 i32 56)]) rfl rfl rfl rfl ?_
  refine zA_ldn rfl rfl rfl ?_
  refine zA_st (st' := [zI (((3 : Int32) * x1) + x2), zrv (zr h28 p31 i32 56)]) rfl rfl rfl rfl ?_
  obtain ⟨p35, i36, j37, v42, e38, c39, c40, e41, e43, H⟩ := zrb_e H
  refine zA_bal rfl rfl e38 c39 c40 e41 e43 ?_
  obtain ⟨c44, H⟩ := zif_e H
  cases H
  exact zA_ret rfl (zret_Z c44)
def zm222_12 (x0 : zq) (x1 : Int32) (x2 : Int32) (s0 : zq) (s1 : Int32) (h : zH) : zRs Int32 :=
  zob 12 s0 fun p21 i22 =>
  zlet (zsi h p21 i22 0 s1) fun h25 =>
  zob 12 x0 fun p27 i28 =>
  if (zi h25 p27 i28 0) ≤ 0 then
    zrb (zr h25 p27 i28 56) (((3 : Int32) * x1) + x2) h25 fun v39 =>
    if v39 = 0 then
      zm222_37 x0 x1 x2 (zr h25 p27 i28 56) (((3 : Int32) * x1) + x2) (1 : Int32) h25
    else
      zm222_37 x0 x1 x2 (zr h25 p27 i28 56) (((3 : Int32) * x1) + x2) (0 : Int32) h25
  else
    some (.inl (0 : Int32), h25)
theorem zmS222_12 : ∀ (x0 : zq) (x1 : Int32) (x2 : Int32) (s0 : zq) (s1 : Int32) (h : zH) (r : Int32 ⊕ Nat) (h' : zH), zm222_12 x0 x1 x2 s0 s1 h = some (r, h') → zAt 222 12 [some (zrv x0), some (zI x1), some (zI x2)] [zI s1, zrv s0] h (zoI r) h' := by
  intro x0 x1 x2 s0 s1 h r h' H
  unfold zm222_12 at H
  obtain ⟨p21, i22, e23, c24, H⟩ := zob_e H
  obtain ⟨h25, e26, H⟩ := zlet_e H
  refine zA_pf0 rfl rfl e23 c24 e26 ?_
  refine zA_aldn rfl rfl rfl ?_
  obtain ⟨p27, i28, e29, c30, H⟩ := zob_e H
  refine zA_gf0 rfl rfl (Or.inl rfl) e29 c30 ?_
  rcases zite_e H with ⟨c31, H⟩ | ⟨c31, H⟩
  · refine zA_brT (c := (zi h25 p27 i28 0) ≤ 0) rfl rfl rfl c31 ?_
    refine zA_aldn rfl rfl rfl ?_
    refine zA_gf3 rfl rfl e29 c30 ?_
    refine zA_push rfl rfl zkk3 ?_
    refine zA_ldn rfl rfl rfl ?_
    refine zA_st (st' := [zI ((3 : Int32) * x1), zrv (zr h25 p27 i28 56)]) rfl rfl rfl rfl ?_
    refine zA_ldn rfl rfl rfl ?_
    refine zA_st (st' := [zI (((3 : Int32) * x1) + x2), zrv (zr h25 p27 i28 56)]) rfl rfl rfl rfl ?_
    refine zA_aldn rfl rfl rfl ?_
    refine zA_gf3 rfl rfl e29 c30 ?_
    refine zA_push rfl rfl zkk3 ?_
    refine zA_ldn rfl rfl rfl ?_
    refine zA_st (st' := [zI ((3 : Int32) * x1), zrv (zr h25 p27 i28 56), zI (((3 : Int32) * x1) + x2), zrv (zr h25 p27 i28 56)]) rfl rfl rfl rfl ?_
    refine zA_ldn rfl rfl rfl ?_
    refine zA_st (st' := [zI (((3 : Int32) * x1) + x2), zrv (zr h25 p27 i28 56), zI (((3 : Int32) * x1) + x2), zrv (zr h25 p27 i28 56)]) rfl rfl rfl rfl ?_
    obtain ⟨p32, i33, j34, v39, e35, c36, c37, e38, e40, H⟩ := zrb_e H
    refine zA_bal rfl rfl e35 c36 c37 e38 e40 ?_
    rcases zite_e H with ⟨c41, H⟩ | ⟨c41, H⟩
    · refine zA_brF' (c := v39 = 0) rfl rfl rfl c41 ?_
      refine zA_push rfl rfl zkk5 ?_
      refine zA_go rfl rfl ?_
      exact zA_tr (L := [some (zrv x0), some (zI x1), some (zI x2)]) rfl rfl (zmS222_37 _ _ _ _ _ _ _ _ _ H)
    · refine zA_brT' (c := v39 = 0) rfl rfl rfl c41 ?_
      refine zA_push rfl rfl zkk7 ?_
      exact zA_tr (L := [some (zrv x0), some (zI x1), some (zI x2)]) rfl rfl (zmS222_37 _ _ _ _ _ _ _ _ _ H)
  · refine zA_brF (c := (zi h25 p27 i28 0) ≤ 0) rfl rfl rfl c31 ?_
    refine zA_push rfl rfl zkk7 ?_
    cases H
    exact zA_ret rfl (zret_Z (by decide))
-- 222: ReleaseHouseModel.zone(II)Z
def zm222 (x0 : zq) (x1 : Int32) (x2 : Int32) (h : zH) : zRs Int32 :=
  zb (zm141 x1 h) fun x22 h21 =>
  if x22 = 0 then
    zm222_12 x0 x1 x2 x0 (1 : Int32) h21
  else
    zb (zm139 x2 (0 : Int32) (2 : Int32) h21) fun x25 h24 =>
    if x25 = 0 then
      zm222_12 x0 x1 x2 x0 (1 : Int32) h24
    else
      zm222_12 x0 x1 x2 x0 (0 : Int32) h24
theorem zmS222 {x0 : zq} {x1 : Int32} {x2 : Int32} {h : zH} {r : Int32 ⊕ Nat} {h' : zH} (H : zm222 x0 x1 x2 h = some (r, h')) : zAt 222 0 [some (zrv x0), some (zI x1), some (zI x2)] [] h (zoI r) h' := by
  unfold zm222 at H
  refine zA_aldn rfl rfl rfl ?_
  refine zA_ldn rfl rfl rfl ?_
  rcases zb_e H with ⟨x22, h21, C, H⟩ | ⟨E, h21, C, H⟩
  · refine zA_callV (as := [zI x1]) (st' := [zrv x0]) rfl rfl rfl rfl rfl (zmE141 _) rfl (zmS141 C) ?_
    rcases zite_e H with ⟨c23, H⟩ | ⟨c23, H⟩
    · refine zA_brT (c := x22 = 0) rfl rfl rfl c23 ?_
      refine zA_push rfl rfl zkk5 ?_
      exact zA_tr (L := [some (zrv x0), some (zI x1), some (zI x2)]) rfl rfl (zmS222_12 _ _ _ _ _ _ _ _ H)
    · refine zA_brF (c := x22 = 0) rfl rfl rfl c23 ?_
      refine zA_ldn rfl rfl rfl ?_
      refine zA_push rfl rfl zkk7 ?_
      refine zA_push rfl rfl zkk23 ?_
      rcases zb_e H with ⟨x25, h24, C, H⟩ | ⟨E, h24, C, H⟩
      · refine zA_callV (as := [zI x2, zI (0 : Int32), zI (2 : Int32)]) (st' := [zrv x0]) rfl rfl rfl rfl rfl (zmE139 _ _ _) rfl (zmS139 C) ?_
        rcases zite_e H with ⟨c26, H⟩ | ⟨c26, H⟩
        · refine zA_brT (c := x25 = 0) rfl rfl rfl c26 ?_
          refine zA_push rfl rfl zkk5 ?_
          exact zA_tr (L := [some (zrv x0), some (zI x1), some (zI x2)]) rfl rfl (zmS222_12 _ _ _ _ _ _ _ _ H)
        · refine zA_brF (c := x25 = 0) rfl rfl rfl c26 ?_
          refine zA_push rfl rfl zkk7 ?_
          refine zA_go rfl rfl ?_
          exact zA_tr (L := [some (zrv x0), some (zI x1), some (zI x2)]) rfl rfl (zmS222_12 _ _ _ _ _ _ _ _ H)
      · cases H
        exact zA_callX (as := [zI x2, zI (0 : Int32), zI (2 : Int32)]) (st' := [zrv x0]) rfl rfl rfl rfl (zmE139 _ _ _) rfl rfl rfl (zmS139 C)
  · cases H
    exact zA_callX (as := [zI x1]) (st' := [zrv x0]) rfl rfl rfl rfl (zmE141 _) rfl rfl rfl (zmS141 C)
theorem zmE222 (x0 : zq) (x1 : Int32) (x2 : Int32) : zpad (zPr.2.1 222).1 (zil [zrv x0, zI x1, zI x2]) = [some (zrv x0), some (zI x1), some (zI x2)] := by
  simp only [zil_A, zil_I, zil_F, zil_D, zil_N]
  rfl
