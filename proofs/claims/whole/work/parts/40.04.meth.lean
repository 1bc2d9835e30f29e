set_option maxRecDepth 16384
/-! The methods read back (printed by wip/whole/gen/dec.py). -/
-- 182: ReleaseHouseModel.notes(I)V
def zm182 (x0 : zq) (x1 : Int32) (h : zH) : zRs Unit :=
  zob 12 x0 fun p21 i22 =>
  zri (zr h p21 i22 34) x1 h fun v32 =>
  zar 1 (zr h p21 i22 34) x1 h fun p34 i35 j36 =>
  zlet (zsi h p34 i35 j36 (v32 + (1 : Int32))) fun h41 =>
  zar 1 (zr h41 p21 i22 35) x1 h41 fun p43 i44 j45 =>
  zlet (zsi h41 p43 i44 j45 (zi h41 p21 i22 1)) fun h50 =>
  zar 2 (zr h50 p21 i22 37) x1 h50 fun p52 i53 j54 =>
  zlet (zsi h50 p52 i53 j54 (0 : Int32)) fun h59 =>
  zri (zr h59 p21 i22 34) x1 h59 fun v68 =>
  zri (zr h59 p21 i22 32) x1 h59 fun v77 =>
  zri (zr h59 p21 i22 26) v77 h59 fun v86 =>
  if v68 = v86 then
    zb (zm176 x0 x1 (2 : Int32) h59) fun _ h89 =>
    some (.inl (), h89)
  else
    some (.inl (), h59)
theorem zmS182 {x0 : zq} {x1 : Int32} {h : zH} {r : Unit ⊕ Nat} {h' : zH} (H : zm182 x0 x1 h = some (r, h')) : zAt 182 0 [some (zrv x0), some (zI x1)] [] h (zoU r) h' := by
  unfold zm182 at H
  refine zA_aldn rfl rfl rfl ?_
  obtain ⟨p21, i22, e23, c24, H⟩ := zob_e H
  refine zA_gf3 rfl rfl e23 c24 ?_
  refine zA_ldn rfl rfl rfl ?_
  refine zA_dup2 rfl rfl rfl (zcat_rv _) ?_
  obtain ⟨p25, i26, j27, v32, e28, c29, c30, e31, e33, H⟩ := zri_e H
  refine zA_ial rfl rfl e28 c29 c30 e31 e33 ?_
  refine zA_push rfl rfl zkk5 ?_
  refine zA_st (st' := [zI (v32 + (1 : Int32)), zI x1, zrv (zr h p21 i22 34)]) rfl rfl rfl rfl ?_
  obtain ⟨p34, i35, j36, e37, c38, c39, e40, H⟩ := zar_e H
  obtain ⟨h41, e42, H⟩ := zlet_e H
  refine zA_ias rfl rfl e37 c38 c39 e40 e42 ?_
  refine zA_aldn rfl rfl rfl ?_
  refine zA_gf3 rfl rfl e23 c24 ?_
  refine zA_ldn rfl rfl rfl ?_
  refine zA_aldn rfl rfl rfl ?_
  refine zA_gf0 rfl rfl (Or.inl rfl) e23 c24 ?_
  obtain ⟨p43, i44, j45, e46, c47, c48, e49, H⟩ := zar_e H
  obtain ⟨h50, e51, H⟩ := zlet_e H
  refine zA_ias rfl rfl e46 c47 c48 e49 e51 ?_
  refine zA_aldn rfl rfl rfl ?_
  refine zA_gf3 rfl rfl e23 c24 ?_
  refine zA_ldn rfl rfl rfl ?_
  refine zA_push rfl rfl zkk7 ?_
  obtain ⟨p52, i53, j54, e55, c56, c57, e58, H⟩ := zar_e H
  obtain ⟨h59, e60, H⟩ := zlet_e H
  refine zA_bas rfl rfl e55 c56 c57 e58 (by decide) e60 ?_
  refine zA_aldn rfl rfl rfl ?_
  refine zA_gf3 rfl rfl e23 c24 ?_
  refine zA_ldn rfl rfl rfl ?_
  obtain ⟨p61, i62, j63, v68, e64, c65, c66, e67, e69, H⟩ := zri_e H
  refine zA_ial rfl rfl e64 c65 c66 e67 e69 ?_
  refine zA_aldn rfl rfl rfl ?_
  refine zA_gf3 rfl rfl e23 c24 ?_
  refine zA_aldn rfl rfl rfl ?_
  refine zA_gf3 rfl rfl e23 c24 ?_
  refine zA_ldn rfl rfl rfl ?_
  obtain ⟨p70, i71, j72, v77, e73, c74, c75, e76, e78, H⟩ := zri_e H
  refine zA_ial rfl rfl e73 c74 c75 e76 e78 ?_
  obtain ⟨p79, i80, j81, v86, e82, c83, c84, e85, e87, H⟩ := zri_e H
  refine zA_ial rfl rfl e82 c83 c84 e85 e87 ?_
  rcases zite_e H with ⟨c88, H⟩ | ⟨c88, H⟩
  · refine zA_brF' (c := v68 = v86) rfl rfl rfl c88 ?_
    refine zA_aldn rfl rfl rfl ?_
    refine zA_ldn rfl rfl rfl ?_
    refine zA_push rfl rfl zkk23 ?_
    rcases zb_e H with ⟨u90, h89, C, H⟩ | ⟨E, h89, C, H⟩
    · refine zA_callU (as := [zrv x0, zI x1, zI (2 : Int32)]) (st' := []) rfl rfl rfl (zrcv_Q e23 c24) rfl (zmE176 _ _ _) rfl (zmS176 C) ?_
      refine zA_tr (L := [none, none]) rfl rfl ?_
      cases H
      exact zA_ret rfl rfl
    · cases H
      exact zA_callX (as := [zrv x0, zI x1, zI (2 : Int32)]) (st' := []) rfl rfl (zrcv_Q e23 c24) rfl (zmE176 _ _ _) rfl rfl rfl (zmS176 C)
  · refine zA_brT' (c := v68 = v86) rfl rfl rfl c88 ?_
    refine zA_tr (L := [none, none]) rfl rfl ?_
    cases H
    exact zA_ret rfl rfl
theorem zmE182 (x0 : zq) (x1 : Int32) : zpad (zPr.2.1 182).1 (zil [zrv x0, zI x1]) = [some (zrv x0), some (zI x1)] := by
  simp only [zil_A, zil_I, zil_F, zil_D, zil_N]
  rfl
def zm185_47 (x2 : Int32) (x3 : Int32) (h : zH) : zRs Int32 :=
  if x3 = 0 then
    if x2 = 0 then
      some (.inl (1 : Int32), h)
    else
      some (.inl (0 : Int32), h)
  else
    some (.inl (1 : Int32), h)
theorem zmS185_47 : ∀ (x2 : Int32) (x3 : Int32) (h : zH) (r : Int32 ⊕ Nat) (h' : zH), zm185_47 x2 x3 h = some (r, h') → zAt 185 47 [none, none, some (zI x2), some (zI x3)] [] h (zoI r) h' := by
  intro x2 x3 h r h' H
  unfold zm185_47 at H
  refine zA_ldn rfl rfl rfl ?_
  rcases zite_e H with ⟨c21, H⟩ | ⟨c21, H⟩
  · refine zA_brF' (c := x3 = 0) rfl rfl rfl c21 ?_
    refine zA_ldn rfl rfl rfl ?_
    rcases zite_e H with ⟨c22, H⟩ | ⟨c22, H⟩
    · refine zA_brF' (c := x2 = 0) rfl rfl rfl c22 ?_
      refine zA_tr (L := [none, none, none, none]) rfl rfl ?_
      refine zA_push rfl rfl zkk5 ?_
      refine zA_go rfl rfl ?_
      cases H
      exact zA_ret rfl (zret_Z (by decide))
    · refine zA_brT' (c := x2 = 0) rfl rfl rfl c22 ?_
      refine zA_tr (L := [none, none, none, none]) rfl rfl ?_
      refine zA_push rfl rfl zkk7 ?_
      cases H
      exact zA_ret rfl (zret_Z (by decide))
  · refine zA_brT' (c := x3 = 0) rfl rfl rfl c21 ?_
    refine zA_tr (L := [none, none, none, none]) rfl rfl ?_
    refine zA_push rfl rfl zkk5 ?_
    refine zA_go rfl rfl ?_
    cases H
    exact zA_ret rfl (zret_Z (by decide))
def zm185_23 (x0 : zq) (x1 : Int32) (x2 : Int32) (s0 : zq) (s1 : Int32) (h : zH) : zRs Int32 :=
  zob 12 s0 fun p21 i22 =>
  zif (s1 = 0 ∨ s1 = 1) <|
  zlet (zsi h p21 i22 43 s1) fun h25 =>
  zob 12 x0 fun p28 i29 =>
  zlet (zsi h25 p28 i29 44 (0 : Int32)) fun h32 =>
  if x2 = (1 : Int32) then
    some (.inl (0 : Int32), h32)
  else
    zb (zm173 x0 h32) fun _ h35 =>
    zb (zm181 x0 x1 h35) fun x37 h36 =>
    zb (zm174 x0 h36) fun _ h38 =>
    if x37 = 0 then
      if x2 = 0 then
        zb (zm182 x0 x1 h38) fun _ h41 =>
        zm185_47 x2 x37 h41
      else
        zm185_47 x2 x37 h38
    else
      zm185_47 x2 x37 h38
theorem zmS185_23 : ∀ (x0 : zq) (x1 : Int32) (x2 : Int32) (s0 : zq) (s1 : Int32) (h : zH) (r : Int32 ⊕ Nat) (h' : zH), zm185_23 x0 x1 x2 s0 s1 h = some (r, h') → zAt 185 23 [some (zrv x0), some (zI x1), some (zI x2), none] [zI s1, zrv s0] h (zoI r) h' := by
  intro x0 x1 x2 s0 s1 h r h' H
  unfold zm185_23 at H
  obtain ⟨p21, i22, e23, c24, H⟩ := zob_e H
  obtain ⟨c27, H⟩ := zif_e H
  obtain ⟨h25, e26, H⟩ := zlet_e H
  refine zA_pf1 rfl rfl e23 c24 c27 e26 ?_
  refine zA_aldn rfl rfl rfl ?_
  refine zA_push rfl rfl zkk7 ?_
  obtain ⟨p28, i29, e30, c31, H⟩ := zob_e H
  obtain ⟨h32, e33, H⟩ := zlet_e H
  refine zA_pf0 rfl rfl e30 c31 e33 ?_
  refine zA_ldn rfl rfl rfl ?_
  refine zA_push rfl rfl zkk5 ?_
  rcases zite_e H with ⟨c34, H⟩ | ⟨c34, H⟩
  · refine zA_brF' (c := x2 = (1 : Int32)) rfl rfl rfl c34 ?_
    refine zA_push rfl rfl zkk7 ?_
    cases H
    exact zA_ret rfl (zret_Z (by decide))
  · refine zA_brT' (c := x2 = (1 : Int32)) rfl rfl rfl c34 ?_
    refine zA_aldn rfl rfl rfl ?_
    rcases zb_e H with ⟨u44, h35, C, H⟩ | ⟨E, h35, C, H⟩
    · refine zA_callU (as := [zrv x0]) (st' := []) rfl rfl rfl (zrcv_Q e30 c31) rfl (zmE173 _) rfl (zmS173 C) ?_
      refine zA_aldn rfl rfl rfl ?_
      refine zA_ldn rfl rfl rfl ?_
      rcases zb_e H with ⟨x37, h36, C, H⟩ | ⟨E, h36, C, H⟩
      · refine zA_callV (as := [zrv x0, zI x1]) (st' := []) rfl rfl rfl (zrcv_Q e30 c31) rfl (zmE181 _ _) rfl (zmS181 C) ?_
        refine zA_istn2 rfl rfl rfl (zset1 (L' := [some (zrv x0), some (zI x1), some (zI x2), some (zI x37)]) rfl rfl (zpcV rfl rfl)) ?_
        refine zA_aldn rfl rfl rfl ?_
        rcases zb_e H with ⟨u43, h38, C, H⟩ | ⟨E, h38, C, H⟩
        · refine zA_callU (as := [zrv x0]) (st' := []) rfl rfl rfl (zrcv_Q e30 c31) rfl (zmE174 _) rfl (zmS174 C) ?_
          refine zA_ldn rfl rfl rfl ?_
          rcases zite_e H with ⟨c39, H⟩ | ⟨c39, H⟩
          · refine zA_brF' (c := x37 = 0) rfl rfl rfl c39 ?_
            refine zA_ldn rfl rfl rfl ?_
            rcases zite_e H with ⟨c40, H⟩ | ⟨c40, H⟩
            · refine zA_brF' (c := x2 = 0) rfl rfl rfl c40 ?_
              refine zA_aldn rfl rfl rfl ?_
              refine zA_ldn rfl rfl rfl ?_
              rcases zb_e H with ⟨u42, h41, C, H⟩ | ⟨E, h41, C, H⟩
              · refine zA_callU (as := [zrv x0, zI x1]) (st' := []) rfl rfl rfl (zrcv_Q e30 c31) rfl (zmE182 _ _) rfl (zmS182 C) ?_
                exact zA_tr (L := [none, none, some (zI x2), some (zI x37)]) rfl rfl (zmS185_47 _ _ _ _ _ H)
              · cases H
                exact zA_callX (as := [zrv x0, zI x1]) (st' := []) rfl rfl (zrcv_Q e30 c31) rfl (zmE182 _ _) rfl rfl rfl (zmS182 C)
            · refine zA_brT' (c := x2 = 0) rfl rfl rfl c40 ?_
              exact zA_tr (L := [none, none, some (zI x2), some (zI x37)]) rfl rfl (zmS185_47 _ _ _ _ _ H)
          · refine zA_brT' (c := x37 = 0) rfl rfl rfl c39 ?_
            exact zA_tr (L := [none, none, some (zI x2), some (zI x37)]) rfl rfl (zmS185_47 _ _ _ _ _ H)
        · cases H
          exact zA_callX (as := [zrv x0]) (st' := []) rfl rfl (zrcv_Q e30 c31) rfl (zmE174 _) rfl rfl rfl (zmS174 C)
      · cases H
        exact zA_callX (as := [zrv x0, zI x1]) (st' := []) rfl rfl (zrcv_Q e30 c31) rfl (zmE181 _ _) rfl rfl rfl (zmS181 C)
    · cases H
      exact zA_callX (as := [zrv x0]) (st' := []) rfl rfl (zrcv_Q e30 c31) rfl (zmE173 _) rfl rfl rfl (zmS173 C)
-- 185: ReleaseHouseModel.turns(I)Z
def zm185 (x0 : zq) (x1 : Int32) (h : zH) : zRs Int32 :=
  zob 12 x0 fun p21 i22 =>
  if (zi h p21 i22 43) = 0 then
    zri (zr h p21 i22 33) x1 h fun v33 =>
    if v33 = 0 then
      zb (zm171 x0 x1 h) fun x37 h36 =>
      if x37 = 0 then
        zlet (zi h36 p21 i22 44) fun x39 =>
        if x39 ≤ 0 then
          zm185_23 x0 x1 x39 x0 (0 : Int32) h36
        else
          zm185_23 x0 x1 x39 x0 (1 : Int32) h36
      else
        some (.inl (0 : Int32), h36)
    else
      some (.inl (0 : Int32), h)
  else
    some (.inl (0 : Int32), h)
theorem zmS185 {x0 : zq} {x1 : Int32} {h : zH} {r : Int32 ⊕ Nat} {h' : zH} (H : zm185 x0 x1 h = some (r, h')) : zAt 185 0 [some (zrv x0), some (zI x1), none, none] [] h (zoI r) h' := by
  unfold zm185 at H
  refine zA_aldn rfl rfl rfl ?_
  obtain ⟨p21, i22, e23, c24, H⟩ := zob_e H
  refine zA_gf0 rfl rfl (Or.inr rfl) e23 c24 ?_
  rcases zite_e H with ⟨c25, H⟩ | ⟨c25, H⟩
  · refine zA_brF' (c := (zi h p21 i22 43) = 0) rfl rfl rfl c25 ?_
    refine zA_aldn rfl rfl rfl ?_
    refine zA_gf3 rfl rfl e23 c24 ?_
    refine zA_ldn rfl rfl rfl ?_
    obtain ⟨p26, i27, j28, v33, e29, c30, c31, e32, e34, H⟩ := zri_e H
    refine zA_ial rfl rfl e29 c30 c31 e32 e34 ?_
    rcases zite_e H with ⟨c35, H⟩ | ⟨c35, H⟩
    · refine zA_brF' (c := v33 = 0) rfl rfl rfl c35 ?_
      refine zA_aldn rfl rfl rfl ?_
      refine zA_ldn rfl rfl rfl ?_
      rcases zb_e H with ⟨x37, h36, C, H⟩ | ⟨E, h36, C, H⟩
      · refine zA_callV (as := [zrv x0, zI x1]) (st' := []) rfl rfl rfl (zrcv_Q e23 c24) rfl (zmE171 _ _) rfl (zmS171 C) ?_
        rcases zite_e H with ⟨c38, H⟩ | ⟨c38, H⟩
        · refine zA_brT (c := x37 = 0) rfl rfl rfl c38 ?_
          refine zA_aldn rfl rfl rfl ?_
          refine zA_gf0 rfl rfl (Or.inl rfl) e23 c24 ?_
          obtain ⟨x39, e40, H⟩ := zlet_e H
          refine zA_istn2 rfl rfl e40 (zset1 (L' := [some (zrv x0), some (zI x1), some (zI x39), none]) rfl rfl (zpcV rfl rfl)) ?_
          refine zA_aldn rfl rfl rfl ?_
          refine zA_ldn rfl rfl rfl ?_
          rcases zite_e H with ⟨c41, H⟩ | ⟨c41, H⟩
          · refine zA_brT (c := x39 ≤ 0) rfl rfl rfl c41 ?_
            refine zA_push rfl rfl zkk7 ?_
            exact zA_tr (L := [some (zrv x0), some (zI x1), some (zI x39), none]) rfl rfl (zmS185_23 _ _ _ _ _ _ _ _ H)
          · refine zA_brF (c := x39 ≤ 0) rfl rfl rfl c41 ?_
            refine zA_push rfl rfl zkk5 ?_
            refine zA_go rfl rfl ?_
            exact zA_tr (L := [some (zrv x0), some (zI x1), some (zI x39), none]) rfl rfl (zmS185_23 _ _ _ _ _ _ _ _ H)
        · refine zA_brF (c := x37 = 0) rfl rfl rfl c38 ?_
          refine zA_tr (L := [none, none, none, none]) rfl rfl ?_
          refine zA_push rfl rfl zkk7 ?_
          cases H
          exact zA_ret rfl (zret_Z (by decide))
      · cases H
        exact zA_callX (as := [zrv x0, zI x1]) (st' := []) rfl rfl (zrcv_Q e23 c24) rfl (zmE171 _ _) rfl rfl rfl (zmS171 C)
    · refine zA_brT' (c := v33 = 0) rfl rfl rfl c35 ?_
      refine zA_tr (L := [none, none, none, none]) rfl rfl ?_
      refine zA_push rfl rfl zkk7 ?_
      cases H
      exact zA_ret rfl (zret_Z (by decide))
  · refine zA_brT' (c := (zi h p21 i22 43) = 0) rfl rfl rfl c25 ?_
    refine zA_tr (L := [none, none, none, none]) rfl rfl ?_
    refine zA_push rfl rfl zkk7 ?_
    cases H
    exact zA_ret rfl (zret_Z (by decide))
theorem zmE185 (x0 : zq) (x1 : Int32) : zpad (zPr.2.1 185).1 (zil [zrv x0, zI x1]) = [some (zrv x0), some (zI x1), none, none] := by
  simp only [zil_A, zil_I, zil_F, zil_D, zil_N]
  rfl
def zm186_72 (k47 : zq → Int32 → Int32 → Int32 → Int32 → Int32 → zH → zRs Int32) (x0 : zq) (x1 : Int32) (x3 : Int32) (x4 : Int32) (x5 : Int32) (s0 : Int32) (s1 : Int32) (h : zH) : zRs Int32 :=
  zlet (s0 + s1) fun x21 =>
  zlet (x5 + (1 : Int32)) fun x23 =>
  k47 x0 x1 x21 x3 x4 x23 h
theorem zmS186_72 {k47 : zq → Int32 → Int32 → Int32 → Int32 → Int32 → zH → zRs Int32} (hk47 : ∀ (x0 : zq) (x1 : Int32) (x2 : Int32) (x3 : Int32) (x4 : Int32) (x5 : Int32) (h : zH) (r : Int32 ⊕ Nat) (h' : zH), k47 x0 x1 x2 x3 x4 x5 h = some (r, h') → zAt 186 47 [some (zrv x0), some (zI x1), some (zI x2), some (zI x3), some (zI x4), some (zI x5)] [] h (zoI r) h') : ∀ (x0 : zq) (x1 : Int32) (x3 : Int32) (x4 : Int32) (x5 : Int32) (s0 : Int32) (s1 : Int32) (h : zH) (r : Int32 ⊕ Nat) (h' : zH), zm186_72 k47 x0 x1 x3 x4 x5 s0 s1 h = some (r, h') → zAt 186 72 [some (zrv x0), some (zI x1), none, some (zI x3), some (zI x4), some (zI x5)] [zI s1, zI s0] h (zoI r) h' := by
  intro x0 x1 x3 x4 x5 s0 s1 h r h' H
  unfold zm186_72 at H
  refine zA_st (st' := [zI (s0 + s1)]) rfl rfl rfl rfl ?_
  obtain ⟨x21, e22, H⟩ := zlet_e H
  refine zA_istn2 rfl rfl e22 (zset1 (L' := [some (zrv x0), some (zI x1), some (zI x21), some (zI x3), some (zI x4), some (zI x5)]) rfl rfl (zpcV rfl rfl)) ?_
  obtain ⟨x23, e24, H⟩ := zlet_e H
  refine zA_inc rfl rfl rfl (e24.trans (congrArg (_ + ·) zkk8)) (zset1 (L' := [some (zrv x0), some (zI x1), some (zI x21), some (zI x3), some (zI x4), some (zI x23)]) rfl rfl (zpcV rfl rfl)) ?_
  refine zA_go rfl rfl ?_
  exact zA_tr (L := [some (zrv x0), some (zI x1), some (zI x21), some (zI x3), some (zI x4), some (zI x23)]) rfl rfl (hk47 _ _ _ _ _ _ _ _ _ H)
def zm186_64 (k47 : zq → Int32 → Int32 → Int32 → Int32 → Int32 → zH → zRs Int32) (x0 : zq) (x1 : Int32) (x3 : Int32) (x4 : Int32) (x5 : Int32) (s0 : Int32) (s1 : Int32) (s2 : Int32) (h : zH) : zRs Int32 :=
  if s1 = s2 then
    zob 12 x0 fun p22 i23 =>
    zb (zm185 x0 x5 h) fun x27 h26 =>
    if x27 = 0 then
      zm186_72 k47 x0 x1 x3 x4 x5 s0 (0 : Int32) h26
    else
      zm186_72 k47 x0 x1 x3 x4 x5 s0 (1 : Int32) h26
  else
    zm186_72 k47 x0 x1 x3 x4 x5 s0 (0 : Int32) h
theorem zmS186_64 {k47 : zq → Int32 → Int32 → Int32 → Int32 → Int32 → zH → zRs Int32} (hk47 : ∀ (x0 : zq) (x1 : Int32) (x2 : Int32) (x3 : Int32) (x4 : Int32) (x5 : Int32) (h : zH) (r : Int32 ⊕ Nat) (h' : zH), k47 x0 x1 x2 x3 x4 x5 h = some (r, h') → zAt 186 47 [some (zrv x0), some (zI x1), some (zI x2), some (zI x3), some (zI x4), some (zI x5)] [] h (zoI r) h') : ∀ (x0 : zq) (x1 : Int32) (x3 : Int32) (x4 : Int32) (x5 : Int32) (s0 : Int32) (s1 : Int32) (s2 : Int32) (h : zH) (r : Int32 ⊕ Nat) (h' : zH), zm186_64 k47 x0 x1 x3 x4 x5 s0 s1 s2 h = some (r, h') → zAt 186 64 [some (zrv x0), some (zI x1), none, some (zI x3), some (zI x4), some (zI x5)] [zI s2, zI s1, zI s0] h (zoI r) h' := by
  intro x0 x1 x3 x4 x5 s0 s1 s2 h r h' H
  unfold zm186_64 at H
  rcases zite_e H with ⟨c21, H⟩ | ⟨c21, H⟩
  · refine zA_brF' (c := s1 = s2) rfl rfl rfl c21 ?_
    refine zA_aldn rfl rfl rfl ?_
    refine zA_ld rfl rfl rfl ?_
    obtain ⟨p22, i23, e24, c25, H⟩ := zob_e H
    rcases zb_e H with ⟨x27, h26, C, H⟩ | ⟨E, h26, C, H⟩
    · refine zA_callV (as := [zrv x0, zI x5]) (st' := [zI s0]) rfl rfl rfl (zrcv_Q e24 c25) rfl (zmE185 _ _) rfl (zmS185 C) ?_
      rcases zite_e H with ⟨c28, H⟩ | ⟨c28, H⟩
      · refine zA_brT (c := x27 = 0) rfl rfl rfl c28 ?_
        refine zA_push rfl rfl zkk7 ?_
        exact zA_tr (L := [some (zrv x0), some (zI x1), none, some (zI x3), some (zI x4), some (zI x5)]) rfl rfl (zmS186_72 hk47 _ _ _ _ _ _ _ _ _ _ H)
      · refine zA_brF (c := x27 = 0) rfl rfl rfl c28 ?_
        refine zA_push rfl rfl zkk5 ?_
        refine zA_go rfl rfl ?_
        exact zA_tr (L := [some (zrv x0), some (zI x1), none, some (zI x3), some (zI x4), some (zI x5)]) rfl rfl (zmS186_72 hk47 _ _ _ _ _ _ _ _ _ _ H)
    · cases H
      exact zA_callX (as := [zrv x0, zI x5]) (st' := [zI s0]) rfl rfl (zrcv_Q e24 c25) rfl (zmE185 _ _) rfl rfl rfl (zmS185 C)
  · refine zA_brT' (c := s1 = s2) rfl rfl rfl c21 ?_
    refine zA_push rfl rfl zkk7 ?_
    exact zA_tr (L := [some (zrv x0), some (zI x1), none, some (zI x3), some (zI x4), some (zI x5)]) rfl rfl (zmS186_72 hk47 _ _ _ _ _ _ _ _ _ _ H)
def zm186_47 (k76 : zq → Int32 → Int32 → Int32 → Int32 → zH → zRs Int32) : Nat → zq → Int32 → Int32 → Int32 → Int32 → Int32 → zH → zRs Int32
  | 0, _, _, _, _, _, _, _ => none
  | n + 1, x0, x1, x2, x3, x4, x5, h =>
    zob 12 x0 fun p21 i22 =>
    if (zi h p21 i22 30) ≤ x5 then
      k76 x0 x1 x2 x3 x4 h
    else
      zri (zr h p21 i22 31) x5 h fun v33 =>
      zrb (zr h p21 i22 10) v33 h fun v42 =>
      if x4 = 0 then
        zm186_64 (zm186_47 k76 n) x0 x1 x3 x4 x5 x2 v42 (1 : Int32) h
      else
        zm186_64 (zm186_47 k76 n) x0 x1 x3 x4 x5 x2 v42 (0 : Int32) h
theorem zmS186_47 {k76 : zq → Int32 → Int32 → Int32 → Int32 → zH → zRs Int32} (hk76 : ∀ (x0 : zq) (x1 : Int32) (x2 : Int32) (x3 : Int32) (x4 : Int32) (h : zH) (r : Int32 ⊕ Nat) (h' : zH), k76 x0 x1 x2 x3 x4 h = some (r, h') → zAt 186 76 [some (zrv x0), some (zI x1), some (zI x2), some (zI x3), some (zI x4), none] [] h (zoI r) h') : ∀ (n : Nat) (x0 : zq) (x1 : Int32) (x2 : Int32) (x3 : Int32) (x4 : Int32) (x5 : Int32) (h : zH) (r : Int32 ⊕ Nat) (h' : zH), zm186_47 k76 n x0 x1 x2 x3 x4 x5 h = some (r, h') → zAt 186 47 [some (zrv x0), some (zI x1), some (zI x2), some (zI x3), some (zI x4), some (zI x5)] [] h (zoI r) h' := by
  intro n
  induction n with
  | zero => intro x0 x1 x2 x3 x4 x5 h r h' H; cases H
  | succ n ih =>
    intro x0 x1 x2 x3 x4 x5 h r h' H
    unfold zm186_47 at H
    refine zA_ld rfl rfl rfl ?_
    refine zA_aldn rfl rfl rfl ?_
    obtain ⟨p21, i22, e23, c24, H⟩ := zob_e H
    refine zA_gf0 rfl rfl (Or.inl rfl) e23 c24 ?_
    rcases zite_e H with ⟨c25, H⟩ | ⟨c25, H⟩
    · refine zA_brT (c := (zi h p21 i22 30) ≤ x5) rfl rfl rfl c25 ?_
      exact zA_tr (L := [some (zrv x0), some (zI x1), some (zI x2), some (zI x3), some (zI x4), none]) rfl rfl (hk76 _ _ _ _ _ _ _ _ H)
    · refine zA_brF (c := (zi h p21 i22 30) ≤ x5) rfl rfl rfl c25 ?_
      refine zA_ldn rfl rfl rfl ?_
      refine zA_aldn rfl rfl rfl ?_
      refine zA_gf3 rfl rfl e23 c24 ?_
      refine zA_aldn rfl rfl rfl ?_
      refine zA_gf3 rfl rfl e23 c24 ?_
      refine zA_ld rfl rfl rfl ?_
      obtain ⟨p26, i27, j28, v33, e29, c30, c31, e32, e34, H⟩ := zri_e H
      refine zA_ial rfl rfl e29 c30 c31 e32 e34 ?_
      obtain ⟨p35, i36, j37, v42, e38, c39, c40, e41, e43, H⟩ := zrb_e H
      refine zA_bal rfl rfl e38 c39 c40 e41 e43 ?_
      refine zA_ld rfl rfl rfl ?_
      rcases zite_e H with ⟨c44, H⟩ | ⟨c44, H⟩
      · refine zA_brF' (c := x4 = 0) rfl rfl rfl c44 ?_
        refine zA_push rfl rfl zkk5 ?_
        refine zA_go rfl rfl ?_
        exact zA_tr (L := [some (zrv x0), some (zI x1), none, some (zI x3), some (zI x4), some (zI x5)]) rfl rfl (zmS186_64 ih _ _ _ _ _ _ _ _ _ _ _ H)
      · refine zA_brT' (c := x4 = 0) rfl rfl rfl c44 ?_
        refine zA_tr (L := [some (zrv x0), some (zI x1), none, some (zI x3), some (zI x4), some (zI x5)]) rfl rfl ?_
        refine zA_push rfl rfl zkk7 ?_
        exact zA_tr (L := [some (zrv x0), some (zI x1), none, some (zI x3), some (zI x4), some (zI x5)]) rfl rfl (zmS186_64 ih _ _ _ _ _ _ _ _ _ _ _ H)
def zm186_76 (k42 : zq → Int32 → Int32 → Int32 → Int32 → zH → zRs Int32) (x0 : zq) (x1 : Int32) (x2 : Int32) (x3 : Int32) (x4 : Int32) (h : zH) : zRs Int32 :=
  zlet (x4 + (1 : Int32)) fun x21 =>
  k42 x0 x1 x2 x3 x21 h
theorem zmS186_76 {k42 : zq → Int32 → Int32 → Int32 → Int32 → zH → zRs Int32} (hk42 : ∀ (x0 : zq) (x1 : Int32) (x2 : Int32) (x3 : Int32) (x4 : Int32) (h : zH) (r : Int32 ⊕ Nat) (h' : zH), k42 x0 x1 x2 x3 x4 h = some (r, h') → zAt 186 42 [some (zrv x0), some (zI x1), some (zI x2), some (zI x3), some (zI x4), none] [] h (zoI r) h') : ∀ (x0 : zq) (x1 : Int32) (x2 : Int32) (x3 : Int32) (x4 : Int32) (h : zH) (r : Int32 ⊕ Nat) (h' : zH), zm186_76 k42 x0 x1 x2 x3 x4 h = some (r, h') → zAt 186 76 [some (zrv x0), some (zI x1), some (zI x2), some (zI x3), some (zI x4), none] [] h (zoI r) h' := by
  intro x0 x1 x2 x3 x4 h r h' H
  unfold zm186_76 at H
  obtain ⟨x21, e22, H⟩ := zlet_e H
  refine zA_inc rfl rfl rfl (e22.trans (congrArg (_ + ·) zkk8)) (zset1 (L' := [some (zrv x0), some (zI x1), some (zI x2), some (zI x3), some (zI x21), none]) rfl rfl (zpcV rfl rfl)) ?_
  refine zA_go rfl rfl ?_
  exact zA_tr (L := [some (zrv x0), some (zI x1), some (zI x2), some (zI x3), some (zI x21), none]) rfl rfl (hk42 _ _ _ _ _ _ _ _ H)
def zm186_42 (k78 : zq → Int32 → Int32 → Int32 → zH → zRs Int32) : Nat → zq → Int32 → Int32 → Int32 → Int32 → zH → zRs Int32
  | 0, _, _, _, _, _, _ => none
  | n + 1, x0, x1, x2, x3, x4, h =>
    if (2 : Int32) ≤ x4 then
      k78 x0 x1 x2 x3 h
    else
      zm186_47 (zm186_76 (zm186_42 k78 n)) zN0 x0 x1 x2 x3 x4 (0 : Int32) h
theorem zmS186_42 {k78 : zq → Int32 → Int32 → Int32 → zH → zRs Int32} (hk78 : ∀ (x0 : zq) (x1 : Int32) (x2 : Int32) (x3 : Int32) (h : zH) (r : Int32 ⊕ Nat) (h' : zH), k78 x0 x1 x2 x3 h = some (r, h') → zAt 186 78 [some (zrv x0), some (zI x1), some (zI x2), some (zI x3), none, none] [] h (zoI r) h') : ∀ (n : Nat) (x0 : zq) (x1 : Int32) (x2 : Int32) (x3 : Int32) (x4 : Int32) (h : zH) (r : Int32 ⊕ Nat) (h' : zH), zm186_42 k78 n x0 x1 x2 x3 x4 h = some (r, h') → zAt 186 42 [some (zrv x0), some (zI x1), some (zI x2), some (zI x3), some (zI x4), none] [] h (zoI r) h' := by
  intro n
  induction n with
  | zero => intro x0 x1 x2 x3 x4 h r h' H; cases H
  | succ n ih =>
    intro x0 x1 x2 x3 x4 h r h' H
    unfold zm186_42 at H
    refine zA_ld rfl rfl rfl ?_
    refine zA_push rfl rfl zkk23 ?_
    rcases zite_e H with ⟨c21, H⟩ | ⟨c21, H⟩
    · refine zA_brT (c := (2 : Int32) ≤ x4) rfl rfl rfl c21 ?_
      exact zA_tr (L := [some (zrv x0), some (zI x1), some (zI x2), some (zI x3), none, none]) rfl rfl (hk78 _ _ _ _ _ _ _ H)
    · refine zA_brF (c := (2 : Int32) ≤ x4) rfl rfl rfl c21 ?_
      refine zA_push rfl rfl zkk7 ?_
      refine zA_ist2 rfl rfl rfl (zset1 (L' := [some (zrv x0), some (zI x1), some (zI x2), some (zI x3), some (zI x4), some (zI (0 : Int32))]) rfl rfl (zpcV rfl rfl)) ?_
      exact zA_tr (L := [some (zrv x0), some (zI x1), some (zI x2), some (zI x3), some (zI x4), some (zI (0 : Int32))]) rfl rfl (zmS186_47 (zmS186_76 ih) zN0 _ _ _ _ _ _ _ _ _ H)
def zm186_78 (k27 : zq → Int32 → Int32 → Int32 → zH → zRs Int32) (x0 : zq) (x1 : Int32) (x2 : Int32) (x3 : Int32) (h : zH) : zRs Int32 :=
  zlet (x3 + (1 : Int32)) fun x21 =>
  k27 x0 x1 x2 x21 h
theorem zmS186_78 {k27 : zq → Int32 → Int32 → Int32 → zH → zRs Int32} (hk27 : ∀ (x0 : zq) (x1 : Int32) (x2 : Int32) (x3 : Int32) (h : zH) (r : Int32 ⊕ Nat) (h' : zH), k27 x0 x1 x2 x3 h = some (r, h') → zAt 186 27 [some (zrv x0), some (zI x1), some (zI x2), some (zI x3), none, none] [] h (zoI r) h') : ∀ (x0 : zq) (x1 : Int32) (x2 : Int32) (x3 : Int32) (h : zH) (r : Int32 ⊕ Nat) (h' : zH), zm186_78 k27 x0 x1 x2 x3 h = some (r, h') → zAt 186 78 [some (zrv x0), some (zI x1), some (zI x2), some (zI x3), none, none] [] h (zoI r) h' := by
  intro x0 x1 x2 x3 h r h' H
  unfold zm186_78 at H
  obtain ⟨x21, e22, H⟩ := zlet_e H
  refine zA_inc rfl rfl rfl (e22.trans (congrArg (_ + ·) zkk8)) (zset1 (L' := [some (zrv x0), some (zI x1), some (zI x2), some (zI x21), none, none]) rfl rfl (zpcV rfl rfl)) ?_
  refine zA_go rfl rfl ?_
  exact zA_tr (L := [some (zrv x0), some (zI x1), some (zI x2), some (zI x21), none, none]) rfl rfl (hk27 _ _ _ _ _ _ _ H)
def zm186_27 : Nat → zq → Int32 → Int32 → Int32 → zH → zRs Int32
  | 0, _, _, _, _, _ => none
  | n + 1, x0, x1, x2, x3, h =>
    if x1 ≤ x3 then
      some (.inl x2, h)
    else
      zob 12 x0 fun p22 i23 =>
      zlet (zsi h p22 i23 1 ((zi h p22 i23 1) + (1 : Int32))) fun h26 =>
      zb (zm183 x0 h26) fun _ h28 =>
      zb (zm184 x0 h28) fun _ h29 =>
      zm186_42 (zm186_78 (zm186_27 n)) zN0 x0 x1 x2 x3 (0 : Int32) h29
theorem zmS186_27 : ∀ (n : Nat) (x0 : zq) (x1 : Int32) (x2 : Int32) (x3 : Int32) (h : zH) (r : Int32 ⊕ Nat) (h' : zH), zm186_27 n x0 x1 x2 x3 h = some (r, h') → zAt 186 27 [some (zrv x0), some (zI x1), some (zI x2), some (zI x3), none, none] [] h (zoI r) h' := by
  intro n
  induction n with
  | zero => intro x0 x1 x2 x3 h r h' H; cases H
  | succ n ih =>
    intro x0 x1 x2 x3 h r h' H
    unfold zm186_27 at H
    refine zA_ldn rfl rfl rfl ?_
    refine zA_ldn rfl rfl rfl ?_
    rcases zite_e H with ⟨c21, H⟩ | ⟨c21, H⟩
    · refine zA_brT (c := x1 ≤ x3) rfl rfl rfl c21 ?_
      refine zA_tr (L := [none, none, some (zI x2), none, none, none]) rfl rfl ?_
      refine zA_ldn rfl rfl rfl ?_
      cases H
      exact zA_ret rfl rfl
    · refine zA_brF (c := x1 ≤ x3) rfl rfl rfl c21 ?_
      refine zA_aldn rfl rfl rfl ?_
      refine zA_dup rfl rfl (zcat_rv _) ?_
      obtain ⟨p22, i23, e24, c25, H⟩ := zob_e H
      refine zA_gf0 rfl rfl (Or.inl rfl) e24 c25 ?_
      refine zA_push rfl rfl zkk5 ?_
      refine zA_st (st' := [zI ((zi h p22 i23 1) + (1 : Int32)), zrv x0]) rfl rfl rfl rfl ?_
      obtain ⟨h26, e27, H⟩ := zlet_e H
      refine zA_pf0 rfl rfl e24 c25 e27 ?_
      refine zA_aldn rfl rfl rfl ?_
      rcases zb_e H with ⟨u31, h28, C, H⟩ | ⟨E, h28, C, H⟩
      · refine zA_callU (as := [zrv x0]) (st' := []) rfl rfl rfl (zrcv_Q e24 c25) rfl (zmE183 _) rfl (zmS183 C) ?_
        refine zA_aldn rfl rfl rfl ?_
        rcases zb_e H with ⟨u30, h29, C, H⟩ | ⟨E, h29, C, H⟩
        · refine zA_callU (as := [zrv x0]) (st' := []) rfl rfl rfl (zrcv_Q e24 c25) rfl (zmE184 _) rfl (zmS184 C) ?_
          refine zA_push rfl rfl zkk7 ?_
          refine zA_ist2 rfl rfl rfl (zset1 (L' := [some (zrv x0), some (zI x1), some (zI x2), some (zI x3), some (zI (0 : Int32)), none]) rfl rfl (zpcV rfl rfl)) ?_
          exact zA_tr (L := [some (zrv x0), some (zI x1), some (zI x2), some (zI x3), some (zI (0 : Int32)), none]) rfl rfl (zmS186_42 (zmS186_78 ih) zN0 _ _ _ _ _ _ _ _ H)
        · cases H
          exact zA_callX (as := [zrv x0]) (st' := []) rfl rfl (zrcv_Q e24 c25) rfl (zmE184 _) rfl rfl rfl (zmS184 C)
      · cases H
        exact zA_callX (as := [zrv x0]) (st' := []) rfl rfl (zrcv_Q e24 c25) rfl (zmE183 _) rfl rfl rfl (zmS183 C)
def zm186_17 (x0 : zq) (x1 : Int32) (s0 : zq) (s1 : Int32) (h : zH) : zRs Int32 :=
  zob 12 s0 fun p21 i22 =>
  zlet (zsi h p21 i22 0 s1) fun h25 =>
  zob 12 x0 fun p27 i28 =>
  if (zi h25 p27 i28 0) ≤ 0 then
    zm186_27 zN0 x0 x1 (0 : Int32) (0 : Int32) h25
  else
    some (.inl (0 : Int32), h25)
theorem zmS186_17 : ∀ (x0 : zq) (x1 : Int32) (s0 : zq) (s1 : Int32) (h : zH) (r : Int32 ⊕ Nat) (h' : zH), zm186_17 x0 x1 s0 s1 h = some (r, h') → zAt 186 17 [some (zrv x0), some (zI x1), none, none, none, none] [zI s1, zrv s0] h (zoI r) h' := by
  intro x0 x1 s0 s1 h r h' H
  unfold zm186_17 at H
  obtain ⟨p21, i22, e23, c24, H⟩ := zob_e H
  obtain ⟨h25, e26, H⟩ := zlet_e H
  refine zA_pf0 rfl rfl e23 c24 e26 ?_
  refine zA_aldn rfl rfl rfl ?_
  obtain ⟨p27, i28, e29, c30, H⟩ := zob_e H
  refine zA_gf0 rfl rfl (Or.inl rfl) e29 c30 ?_
  rcases zite_e H with ⟨c31, H⟩ | ⟨c31, H⟩
  · refine zA_brT (c := (zi h25 p27 i28 0) ≤ 0) rfl rfl rfl c31 ?_
    refine zA_push rfl rfl zkk7 ?_
    refine zA_istn2 rfl rfl rfl (zset1 (L' := [some (zrv x0), some (zI x1), some (zI (0 : Int32)), none, none, none]) rfl rfl (zpcV rfl rfl)) ?_
    refine zA_push rfl rfl zkk7 ?_
    refine zA_istn2 rfl rfl rfl (zset1 (L' := [some (zrv x0), some (zI x1), some (zI (0 : Int32)), some (zI (0 : Int32)), none, none]) rfl rfl (zpcV rfl rfl)) ?_
    exact zA_tr (L := [some (zrv x0), some (zI x1), some (zI (0 : Int32)), some (zI (0 : Int32)), none, none]) rfl rfl (zmS186_27 zN0 _ _ _ _ _ _ _ H)
  · refine zA_brF (c := (zi h25 p27 i28 0) ≤ 0) rfl rfl rfl c31 ?_
    refine zA_push rfl rfl zkk7 ?_
    cases H
    exact zA_ret rfl rfl
-- 186: ReleaseHouseModel.pass(I)I
def zm186 (x0 : zq) (x1 : Int32) (h : zH) : zRs Int32 :=
  zb (zm139 x1 (1 : Int32) (200 : Int32) h) fun x22 h21 =>
  if x22 = 0 then
    zm186_17 x0 x1 x0 (1 : Int32) h21
  else
    zob 12 x0 fun p24 i25 =>
    if ((zi h21 p24 i25 1) + x1) ≤ (20000 : Int32) then
      zm186_17 x0 x1 x0 (0 : Int32) h21
    else
      zm186_17 x0 x1 x0 (2 : Int32) h21
theorem zmS186 {x0 : zq} {x1 : Int32} {h : zH} {r : Int32 ⊕ Nat} {h' : zH} (H : zm186 x0 x1 h = some (r, h')) : zAt 186 0 [some (zrv x0), some (zI x1), none, none, none, none] [] h (zoI r) h' := by
  unfold zm186 at H
  refine zA_aldn rfl rfl rfl ?_
  refine zA_ldn rfl rfl rfl ?_
  refine zA_push rfl rfl zkk5 ?_
  refine zA_push rfl rfl zkk4 ?_
  rcases zb_e H with ⟨x22, h21, C, H⟩ | ⟨E, h21, C, H⟩
  · refine zA_callV (as := [zI x1, zI (1 : Int32), zI (200 : Int32)]) (st' := [zrv x0]) rfl rfl rfl rfl rfl (zmE139 _ _ _) rfl (zmS139 C) ?_
    rcases zite_e H with ⟨c23, H⟩ | ⟨c23, H⟩
    · refine zA_brF' (c := x22 = 0) rfl rfl rfl c23 ?_
      refine zA_push rfl rfl zkk5 ?_
      refine zA_go rfl rfl ?_
      exact zA_tr (L := [some (zrv x0), some (zI x1), none, none, none, none]) rfl rfl (zmS186_17 _ _ _ _ _ _ _ H)
    · refine zA_brT' (c := x22 = 0) rfl rfl rfl c23 ?_
      refine zA_aldn rfl rfl rfl ?_
      obtain ⟨p24, i25, e26, c27, H⟩ := zob_e H
      refine zA_gf0 rfl rfl (Or.inl rfl) e26 c27 ?_
      refine zA_ldn rfl rfl rfl ?_
      refine zA_st (st' := [zI ((zi h21 p24 i25 1) + x1), zrv x0]) rfl rfl rfl rfl ?_
      refine zA_push rfl rfl zkk46 ?_
      rcases zite_e H with ⟨c28, H⟩ | ⟨c28, H⟩
      · refine zA_brT (c := ((zi h21 p24 i25 1) + x1) ≤ (20000 : Int32)) rfl rfl rfl c28 ?_
        refine zA_push rfl rfl zkk7 ?_
        exact zA_tr (L := [some (zrv x0), some (zI x1), none, none, none, none]) rfl rfl (zmS186_17 _ _ _ _ _ _ _ H)
      · refine zA_brF (c := ((zi h21 p24 i25 1) + x1) ≤ (20000 : Int32)) rfl rfl rfl c28 ?_
        refine zA_push rfl rfl zkk23 ?_
        refine zA_go rfl rfl ?_
        exact zA_tr (L := [some (zrv x0), some (zI x1), none, none, none, none]) rfl rfl (zmS186_17 _ _ _ _ _ _ _ H)
  · cases H
    exact zA_callX (as := [zI x1, zI (1 : Int32), zI (200 : Int32)]) (st' := [zrv x0]) rfl rfl rfl rfl (zmE139 _ _ _) rfl rfl rfl (zmS139 C)
theorem zmE186 (x0 : zq) (x1 : Int32) : zpad (zPr.2.1 186).1 (zil [zrv x0, zI x1]) = [some (zrv x0), some (zI x1), none, none, none, none] := by
  simp only [zil_A, zil_I, zil_F, zil_D, zil_N]
  rfl
def zm81_14 (s0 : zq) (s1 : Int32) (h : zH) : zRs Unit :=
  zob 11 s0 fun p21 i22 =>
  zlet (zsi h p21 i22 12 s1) fun h25 =>
  some (.inl (), h25)
theorem zmS81_14 : ∀ (s0 : zq) (s1 : Int32) (h : zH) (r : Unit ⊕ Nat) (h' : zH), zm81_14 s0 s1 h = some (r, h') → zAt 81 14 [none, none] [zI s1, zrv s0] h (zoU r) h' := by
  intro s0 s1 h r h' H
  unfold zm81_14 at H
  obtain ⟨p21, i22, e23, c24, H⟩ := zob_e H
  obtain ⟨h25, e26, H⟩ := zlet_e H
  refine zA_pf0 rfl rfl e23 c24 e26 ?_
  cases H
  exact zA_ret rfl rfl
-- 81: ReleaseHouse.die(Z)V
def zm81 (x0 : zq) (x1 : Int32) (h : zH) : zRs Unit :=
  zob 11 x0 fun p21 i22 =>
  if (zi h p21 i22 13) = 0 then
    if x1 = 0 then
      zm81_14 x0 (1 : Int32) h
    else
      zm81_14 x0 (2 : Int32) h
  else
    some (.inr 1, zro h 1 6)
theorem zmS81 {x0 : zq} {x1 : Int32} {h : zH} {r : Unit ⊕ Nat} {h' : zH} (H : zm81 x0 x1 h = some (r, h')) : zAt 81 0 [some (zrv x0), some (zI x1)] [] h (zoU r) h' := by
  unfold zm81 at H
  refine zA_aldn rfl rfl rfl ?_
  obtain ⟨p21, i22, e23, c24, H⟩ := zob_e H
  refine zA_gf0 rfl rfl (Or.inr rfl) e23 c24 ?_
  rcases zite_e H with ⟨c25, H⟩ | ⟨c25, H⟩
  · refine zA_brT (c := (zi h p21 i22 13) = 0) rfl rfl rfl c25 ?_
    refine zA_aldn rfl rfl rfl ?_
    refine zA_ldn rfl rfl rfl ?_
    rcases zite_e H with ⟨c26, H⟩ | ⟨c26, H⟩
    · refine zA_brT (c := x1 = 0) rfl rfl rfl c26 ?_
      refine zA_tr (L := [none, none]) rfl rfl ?_
      refine zA_push rfl rfl zkk5 ?_
      exact zA_tr (L := [none, none]) rfl rfl (zmS81_14 _ _ _ _ _ H)
    · refine zA_brF (c := x1 = 0) rfl rfl rfl c26 ?_
      refine zA_push rfl rfl zkk23 ?_
      refine zA_go rfl rfl ?_
      exact zA_tr (L := [none, none]) rfl rfl (zmS81_14 _ _ _ _ _ H)
  · refine zA_brF (c := (zi h p21 i22 13) = 0) rfl rfl rfl c25 ?_
    cases H
    exact zA_thr rfl rfl
theorem zmE81 (x0 : zq) (x1 : Int32) : zpad (zPr.2.1 81).1 (zil [zrv x0, zI x1]) = [some (zrv x0), some (zI x1)] := by
  simp only [zil_A, zil_I, zil_F, zil_D, zil_N]
  rfl
-- 254: ReleaseHouseLaw.die(LReleaseHouse;Z)I
def zm254 (x0 : zq) (x1 : Int32) (h : zH) : zRs Int32 :=
  zob 11 x0 fun p21 i22 =>
  zbH [(0, 3, 1, 1)] 2 (zm81 x0 x1 h) fun _ h25 =>
  some (.inl (0 : Int32), h25)
theorem zmS254 {x0 : zq} {x1 : Int32} {h : zH} {r : Int32 ⊕ Nat} {h' : zH} (H : zm254 x0 x1 h = some (r, h')) : zAt 254 0 [some (zrv x0), some (zI x1), none] [] h (zoI r) h' := by
  unfold zm254 at H
  refine zA_aldn rfl rfl rfl ?_
  refine zA_ldn rfl rfl rfl ?_
  obtain ⟨p21, i22, e23, c24, H⟩ := zob_e H
  rcases zbH_e H with ⟨u26, h25, C, H⟩ | ⟨E, h25, c27, C, hc, H⟩
  · refine zA_callU (as := [zrv x0, zI x1]) (st' := []) rfl rfl rfl (zrcv_Q e23 c24) rfl (zmE81 _ _) rfl (zmS81 C) ?_
    refine zA_go rfl rfl ?_
    refine zA_tr (L := [none, none, none]) rfl rfl ?_
    refine zA_push rfl rfl zkk7 ?_
    cases H
    exact zA_ret rfl rfl
  · cases H
    exact zA_callH (as := [zrv x0, zI x1]) (st' := []) rfl rfl (zrcv_Q e23 c24) rfl (zmE81 _ _) rfl rfl rfl (List.cons_ne_nil _ _) hc (zmS81 C)
theorem zmE254 (x0 : zq) (x1 : Int32) : zpad (zPr.2.1 254).1 (zil [zrv x0, zI x1]) = [some (zrv x0), some (zI x1), none] := by
  simp only [zil_A, zil_I, zil_F, zil_D, zil_N]
  rfl
def zm187_17 (s0 : zq) (s1 : Int32) (h : zH) : zRs Unit :=
  zob 12 s0 fun p21 i22 =>
  zlet (zsi h p21 i22 44 s1) fun h25 =>
  some (.inl (), h25)
theorem zmS187_17 : ∀ (s0 : zq) (s1 : Int32) (h : zH) (r : Unit ⊕ Nat) (h' : zH), zm187_17 s0 s1 h = some (r, h') → zAt 187 17 [none, none] [zI s1, zrv s0] h (zoU r) h' := by
  intro s0 s1 h r h' H
  unfold zm187_17 at H
  obtain ⟨p21, i22, e23, c24, H⟩ := zob_e H
  obtain ⟨h25, e26, H⟩ := zlet_e H
  refine zA_pf0 rfl rfl e23 c24 e26 ?_
  cases H
  exact zA_ret rfl rfl
def zm187_7 (x0 : zq) (x1 : Int32) (s0 : zq) (s1 : Int32) (h : zH) : zRs Unit :=
  zob 12 s0 fun p21 i22 =>
  zlet (zsi h p21 i22 0 s1) fun h25 =>
  zob 12 x0 fun p27 i28 =>
  if (zi h25 p27 i28 0) = 0 then
    if x1 = 0 then
      zm187_17 x0 (1 : Int32) h25
    else
      zm187_17 x0 (2 : Int32) h25
  else
    some (.inl (), h25)
theorem zmS187_7 : ∀ (x0 : zq) (x1 : Int32) (s0 : zq) (s1 : Int32) (h : zH) (r : Unit ⊕ Nat) (h' : zH), zm187_7 x0 x1 s0 s1 h = some (r, h') → zAt 187 7 [some (zrv x0), some (zI x1)] [zI s1, zrv s0] h (zoU r) h' := by
  intro x0 x1 s0 s1 h r h' H
  unfold zm187_7 at H
  obtain ⟨p21, i22, e23, c24, H⟩ := zob_e H
  obtain ⟨h25, e26, H⟩ := zlet_e H
  refine zA_pf0 rfl rfl e23 c24 e26 ?_
  refine zA_aldn rfl rfl rfl ?_
  obtain ⟨p27, i28, e29, c30, H⟩ := zob_e H
  refine zA_gf0 rfl rfl (Or.inl rfl) e29 c30 ?_
  rcases zite_e H with ⟨c31, H⟩ | ⟨c31, H⟩
  · refine zA_brF' (c := (zi h25 p27 i28 0) = 0) rfl rfl rfl c31 ?_
    refine zA_aldn rfl rfl rfl ?_
    refine zA_ldn rfl rfl rfl ?_
    rcases zite_e H with ⟨c32, H⟩ | ⟨c32, H⟩
    · refine zA_brT (c := x1 = 0) rfl rfl rfl c32 ?_
      refine zA_tr (L := [none, none]) rfl rfl ?_
      refine zA_push rfl rfl zkk5 ?_
      exact zA_tr (L := [none, none]) rfl rfl (zmS187_17 _ _ _ _ _ H)
    · refine zA_brF (c := x1 = 0) rfl rfl rfl c32 ?_
      refine zA_push rfl rfl zkk23 ?_
      refine zA_go rfl rfl ?_
      exact zA_tr (L := [none, none]) rfl rfl (zmS187_17 _ _ _ _ _ H)
  · refine zA_brT' (c := (zi h25 p27 i28 0) = 0) rfl rfl rfl c31 ?_
    refine zA_tr (L := [none, none]) rfl rfl ?_
    cases H
    exact zA_ret rfl rfl
-- 187: ReleaseHouseModel.die(Z)V
def zm187 (x0 : zq) (x1 : Int32) (h : zH) : zRs Unit :=
  zob 12 x0 fun p21 i22 =>
  if (zi h p21 i22 43) = 0 then
    zm187_7 x0 x1 x0 (0 : Int32) h
  else
    zm187_7 x0 x1 x0 (1 : Int32) h
theorem zmS187 {x0 : zq} {x1 : Int32} {h : zH} {r : Unit ⊕ Nat} {h' : zH} (H : zm187 x0 x1 h = some (r, h')) : zAt 187 0 [some (zrv x0), some (zI x1)] [] h (zoU r) h' := by
  unfold zm187 at H
  refine zA_aldn rfl rfl rfl ?_
  refine zA_aldn rfl rfl rfl ?_
  obtain ⟨p21, i22, e23, c24, H⟩ := zob_e H
  refine zA_gf0 rfl rfl (Or.inr rfl) e23 c24 ?_
  rcases zite_e H with ⟨c25, H⟩ | ⟨c25, H⟩
  · refine zA_brT (c := (zi h p21 i22 43) = 0) rfl rfl rfl c25 ?_
    refine zA_push rfl rfl zkk7 ?_
    exact zA_tr (L := [some (zrv x0), some (zI x1)]) rfl rfl (zmS187_7 _ _ _ _ _ _ _ H)
  · refine zA_brF (c := (zi h p21 i22 43) = 0) rfl rfl rfl c25 ?_
    refine zA_push rfl rfl zkk5 ?_
    refine zA_go rfl rfl ?_
    exact zA_tr (L := [some (zrv x0), some (zI x1)]) rfl rfl (zmS187_7 _ _ _ _ _ _ _ H)
theorem zmE187 (x0 : zq) (x1 : Int32) : zpad (zPr.2.1 187).1 (zil [zrv x0, zI x1]) = [some (zrv x0), some (zI x1)] := by
  simp only [zil_A, zil_I, zil_F, zil_D, zil_N]
  rfl
def zm82_31 (k18 : zq → Int32 → Int32 → zH → zRs Int32) (x0 : zq) (x1 : Int32) (x2 : Int32) (h : zH) : zRs Int32 :=
  zlet (x2 + (1 : Int32)) fun x21 =>
  k18 x0 x1 x21 h
theorem zmS82_31 {k18 : zq → Int32 → Int32 → zH → zRs Int32} (hk18 : ∀ (x0 : zq) (x1 : Int32) (x2 : Int32) (h : zH) (r : Int32 ⊕ Nat) (h' : zH), k18 x0 x1 x2 h = some (r, h') → zAt 82 18 [some (zrv x0), some (zI x1), some (zI x2)] [] h (zoI r) h') : ∀ (x0 : zq) (x1 : Int32) (x2 : Int32) (h : zH) (r : Int32 ⊕ Nat) (h' : zH), zm82_31 k18 x0 x1 x2 h = some (r, h') → zAt 82 31 [some (zrv x0), some (zI x1), some (zI x2)] [] h (zoI r) h' := by
  intro x0 x1 x2 h r h' H
  unfold zm82_31 at H
  obtain ⟨x21, e22, H⟩ := zlet_e H
  refine zA_inc rfl rfl rfl (e22.trans (congrArg (_ + ·) zkk8)) (zset1 (L' := [some (zrv x0), some (zI x1), some (zI x21)]) rfl rfl (zpcV rfl rfl)) ?_
  refine zA_go rfl rfl ?_
  exact zA_tr (L := [some (zrv x0), some (zI x1), some (zI x21)]) rfl rfl (hk18 _ _ _ _ _ _ H)
def zm82_18 : Nat → zq → Int32 → Int32 → zH → zRs Int32
  | 0, _, _, _, _ => none
  | n + 1, x0, x1, x2, h =>
    zob 11 x0 fun p21 i22 =>
    zlz (zr h p21 i22 2) h fun v30 =>
    if v30 ≤ x2 then
      some (.inl x1, h)
    else
      zlg (zr h p21 i22 2) x2 h fun v39 =>
      zob 5 v39 fun p41 i42 =>
      if (zi h p41 i42 2) = 0 then
        zlet (x1 + (1 : Int32)) fun x46 =>
        zm82_31 (zm82_18 n) x0 x46 x2 h
      else
        zm82_31 (zm82_18 n) x0 x1 x2 h
theorem zmS82_18 : ∀ (n : Nat) (x0 : zq) (x1 : Int32) (x2 : Int32) (h : zH) (r : Int32 ⊕ Nat) (h' : zH), zm82_18 n x0 x1 x2 h = some (r, h') → zAt 82 18 [some (zrv x0), some (zI x1), some (zI x2)] [] h (zoI r) h' := by
  intro n
  induction n with
  | zero => intro x0 x1 x2 h r h' H; cases H
  | succ n ih =>
    intro x0 x1 x2 h r h' H
    unfold zm82_18 at H
    refine zA_ldn rfl rfl rfl ?_
    refine zA_aldn rfl rfl rfl ?_
    obtain ⟨p21, i22, e23, c24, H⟩ := zob_e H
    refine zA_gf3 rfl rfl e23 c24 ?_
    obtain ⟨p25, i26, v30, e27, c28, c29, e31, H⟩ := zlz_e H
    refine zA_l2 rfl rfl rfl e27 c28 c29 e31 ?_
    rcases zite_e H with ⟨c32, H⟩ | ⟨c32, H⟩
    · refine zA_brT (c := v30 ≤ x2) rfl rfl rfl c32 ?_
      refine zA_tr (L := [none, some (zI x1), none]) rfl rfl ?_
      refine zA_ldn rfl rfl rfl ?_
      cases H
      exact zA_ret rfl rfl
    · refine zA_brF (c := v30 ≤ x2) rfl rfl rfl c32 ?_
      refine zA_aldn rfl rfl rfl ?_
      refine zA_gf3 rfl rfl e23 c24 ?_
      refine zA_ldn rfl rfl rfl ?_
      obtain ⟨p33, i34, v39, e35, c36, c37, c38, e40, H⟩ := zlg_e H
      refine zA_l3 rfl rfl rfl e35 c36 c37 c38 e40 ?_
      obtain ⟨p41, i42, e43, c44, H⟩ := zob_e H
      refine zA_cast rfl rfl e43 c44 ?_
      refine zA_gf0 rfl rfl (Or.inl rfl) e43 c44 ?_
      rcases zite_e H with ⟨c45, H⟩ | ⟨c45, H⟩
      · refine zA_brF' (c := (zi h p41 i42 2) = 0) rfl rfl rfl c45 ?_
        obtain ⟨x46, e47, H⟩ := zlet_e H
        refine zA_inc rfl rfl rfl (e47.trans (congrArg (_ + ·) zkk8)) (zset1 (L' := [some (zrv x0), some (zI x46), some (zI x2)]) rfl rfl (zpcV rfl (zcat_rv _))) ?_
        exact zA_tr (L := [some (zrv x0), some (zI x46), some (zI x2)]) rfl rfl (zmS82_31 ih _ _ _ _ _ _ H)
      · refine zA_brT' (c := (zi h p41 i42 2) = 0) rfl rfl rfl c45 ?_
        exact zA_tr (L := [some (zrv x0), some (zI x1), some (zI x2)]) rfl rfl (zmS82_31 ih _ _ _ _ _ _ H)
-- 82: ReleaseHouse.rise()I
def zm82 (x0 : zq) (h : zH) : zRs Int32 :=
  zob 11 x0 fun p21 i22 =>
  if (zi h p21 i22 13) = 0 then
    some (.inr 1, zro h 1 6)
  else
    zlet (zsi h p21 i22 13 (0 : Int32)) fun h26 =>
    zlet (zsi h26 p21 i22 12 (0 : Int32)) fun h28 =>
    zm82_18 zN0 x0 (0 : Int32) (0 : Int32) h28
theorem zmS82 {x0 : zq} {h : zH} {r : Int32 ⊕ Nat} {h' : zH} (H : zm82 x0 h = some (r, h')) : zAt 82 0 [some (zrv x0), none, none] [] h (zoI r) h' := by
  unfold zm82 at H
  refine zA_aldn rfl rfl rfl ?_
  obtain ⟨p21, i22, e23, c24, H⟩ := zob_e H
  refine zA_gf0 rfl rfl (Or.inr rfl) e23 c24 ?_
  rcases zite_e H with ⟨c25, H⟩ | ⟨c25, H⟩
  · refine zA_brF' (c := (zi h p21 i22 13) = 0) rfl rfl rfl c25 ?_
    cases H
    exact zA_thr rfl rfl
  · refine zA_brT' (c := (zi h p21 i22 13) = 0) rfl rfl rfl c25 ?_
    refine zA_aldn rfl rfl rfl ?_
    refine zA_push rfl rfl zkk7 ?_
    obtain ⟨h26, e27, H⟩ := zlet_e H
    refine zA_pf1 rfl rfl e23 c24 (by decide) e27 ?_
    refine zA_aldn rfl rfl rfl ?_
    refine zA_push rfl rfl zkk7 ?_
    obtain ⟨h28, e29, H⟩ := zlet_e H
    refine zA_pf0 rfl rfl e23 c24 e29 ?_
    refine zA_push rfl rfl zkk7 ?_
    refine zA_istn2 rfl rfl rfl (zset1 (L' := [some (zrv x0), some (zI (0 : Int32)), none]) rfl rfl (zpcV rfl (zcat_rv _))) ?_
    refine zA_push rfl rfl zkk7 ?_
    refine zA_istn2 rfl rfl rfl (zset1 (L' := [some (zrv x0), some (zI (0 : Int32)), some (zI (0 : Int32))]) rfl rfl (zpcV rfl rfl)) ?_
    exact zA_tr (L := [some (zrv x0), some (zI (0 : Int32)), some (zI (0 : Int32))]) rfl rfl (zmS82_18 zN0 _ _ _ _ _ _ H)
theorem zmE82 (x0 : zq) : zpad (zPr.2.1 82).1 (zil [zrv x0]) = [some (zrv x0), none, none] := by
  simp only [zil_A, zil_I, zil_F, zil_D, zil_N]
  rfl
-- 255: ReleaseHouseLaw.rise(LReleaseHouse;[J)I
def zm255 (x0 : zq) (x1 : zq) (h : zH) : zRs Int32 :=
  zob 11 x0 fun p21 i22 =>
  zbH [(0, 6, 1, 1)] 3 (zm82 x0 h) fun x26 h25 =>
  zar 3 x1 (0 : Int32) h25 fun p27 i28 j29 =>
  zlet (zsl h25 p27 i28 j29 (x26.toInt64)) fun h34 =>
  some (.inl (0 : Int32), h34)
theorem zmS255 {x0 : zq} {x1 : zq} {h : zH} {r : Int32 ⊕ Nat} {h' : zH} (H : zm255 x0 x1 h = some (r, h')) : zAt 255 0 [some (zrv x0), some (zrv x1), none] [] h (zoI r) h' := by
  unfold zm255 at H
  refine zA_aldn rfl rfl rfl ?_
  refine zA_push rfl rfl zkk7 ?_
  refine zA_aldn rfl rfl rfl ?_
  obtain ⟨p21, i22, e23, c24, H⟩ := zob_e H
  rcases zbH_e H with ⟨x26, h25, C, H⟩ | ⟨E, h25, c36, C, hc, H⟩
  · refine zA_callV (as := [zrv x0]) (st' := [zI (0 : Int32), zrv x1]) rfl rfl rfl (zrcv_Q e23 c24) rfl (zmE82 _) rfl (zmS82 C) ?_
    refine zA_st (st' := [zJ (x26.toInt64), zI (0 : Int32), zrv x1]) rfl rfl rfl rfl ?_
    obtain ⟨p27, i28, j29, e30, c31, c32, e33, H⟩ := zar_e H
    obtain ⟨h34, e35, H⟩ := zlet_e H
    refine zA_las rfl rfl e30 c31 c32 e33 e35 ?_
    refine zA_go rfl rfl ?_
    refine zA_tr (L := [none, none, none]) rfl rfl ?_
    refine zA_push rfl rfl zkk7 ?_
    cases H
    exact zA_ret rfl rfl
  · cases H
    exact zA_callH (as := [zrv x0]) (st' := [zI (0 : Int32), zrv x1]) rfl rfl (zrcv_Q e23 c24) rfl (zmE82 _) rfl rfl rfl (List.cons_ne_nil _ _) hc (zmS82 C)
theorem zmE255 (x0 : zq) (x1 : zq) : zpad (zPr.2.1 255).1 (zil [zrv x0, zrv x1]) = [some (zrv x0), some (zrv x1), none] := by
  simp only [zil_A, zil_I, zil_F, zil_D, zil_N]
  rfl
def zm188_33 (k20 : zq → Int32 → Int32 → zH → zRs Int32) (x0 : zq) (x2 : Int32) (s0 : Int32) (s1 : Int32) (h : zH) : zRs Int32 :=
  zlet (s0 + s1) fun x21 =>
  zlet (x2 + (1 : Int32)) fun x23 =>
  k20 x0 x21 x23 h
theorem zmS188_33 {k20 : zq → Int32 → Int32 → zH → zRs Int32} (hk20 : ∀ (x0 : zq) (x1 : Int32) (x2 : Int32) (h : zH) (r : Int32 ⊕ Nat) (h' : zH), k20 x0 x1 x2 h = some (r, h') → zAt 188 20 [some (zrv x0), some (zI x1), some (zI x2)] [] h (zoI r) h') : ∀ (x0 : zq) (x2 : Int32) (s0 : Int32) (s1 : Int32) (h : zH) (r : Int32 ⊕ Nat) (h' : zH), zm188_33 k20 x0 x2 s0 s1 h = some (r, h') → zAt 188 33 [some (zrv x0), none, some (zI x2)] [zI s1, zI s0] h (zoI r) h' := by
  intro x0 x2 s0 s1 h r h' H
  unfold zm188_33 at H
  refine zA_st (st' := [zI (s0 + s1)]) rfl rfl rfl rfl ?_
  obtain ⟨x21, e22, H⟩ := zlet_e H
  refine zA_istn2 rfl rfl e22 (zset1 (L' := [some (zrv x0), some (zI x21), some (zI x2)]) rfl rfl (zpcV rfl (zcat_rv _))) ?_
  obtain ⟨x23, e24, H⟩ := zlet_e H
  refine zA_inc rfl rfl rfl (e24.trans (congrArg (_ + ·) zkk8)) (zset1 (L' := [some (zrv x0), some (zI x21), some (zI x23)]) rfl rfl (zpcV rfl rfl)) ?_
  refine zA_go rfl rfl ?_
  exact zA_tr (L := [some (zrv x0), some (zI x21), some (zI x23)]) rfl rfl (hk20 _ _ _ _ _ _ H)
def zm188_20 : Nat → zq → Int32 → Int32 → zH → zRs Int32
  | 0, _, _, _, _ => none
  | n + 1, x0, x1, x2, h =>
    zob 12 x0 fun p21 i22 =>
    if (zi h p21 i22 30) ≤ x2 then
      some (.inl x1, h)
    else
      zri (zr h p21 i22 33) x2 h fun v33 =>
      if v33 = 0 then
        zm188_33 (zm188_20 n) x0 x2 x1 (1 : Int32) h
      else
        zm188_33 (zm188_20 n) x0 x2 x1 (0 : Int32) h
theorem zmS188_20 : ∀ (n : Nat) (x0 : zq) (x1 : Int32) (x2 : Int32) (h : zH) (r : Int32 ⊕ Nat) (h' : zH), zm188_20 n x0 x1 x2 h = some (r, h') → zAt 188 20 [some (zrv x0), some (zI x1), some (zI x2)] [] h (zoI r) h' := by
  intro n
  induction n with
  | zero => intro x0 x1 x2 h r h' H; cases H
  | succ n ih =>
    intro x0 x1 x2 h r h' H
    unfold zm188_20 at H
    refine zA_ldn rfl rfl rfl ?_
    refine zA_aldn rfl rfl rfl ?_
    obtain ⟨p21, i22, e23, c24, H⟩ := zob_e H
    refine zA_gf0 rfl rfl (Or.inl rfl) e23 c24 ?_
    rcases zite_e H with ⟨c25, H⟩ | ⟨c25, H⟩
    · refine zA_brT (c := (zi h p21 i22 30) ≤ x2) rfl rfl rfl c25 ?_
      refine zA_tr (L := [none, some (zI x1), none]) rfl rfl ?_
      refine zA_ldn rfl rfl rfl ?_
      cases H
      exact zA_ret rfl rfl
    · refine zA_brF (c := (zi h p21 i22 30) ≤ x2) rfl rfl rfl c25 ?_
      refine zA_ldn rfl rfl rfl ?_
      refine zA_aldn rfl rfl rfl ?_
      refine zA_gf3 rfl rfl e23 c24 ?_
      refine zA_ldn rfl rfl rfl ?_
      obtain ⟨p26, i27, j28, v33, e29, c30, c31, e32, e34, H⟩ := zri_e H
      refine zA_ial rfl rfl e29 c30 c31 e32 e34 ?_
      rcases zite_e H with ⟨c35, H⟩ | ⟨c35, H⟩
      · refine zA_brF' (c := v33 = 0) rfl rfl rfl c35 ?_
        refine zA_push rfl rfl zkk5 ?_
        refine zA_go rfl rfl ?_
        exact zA_tr (L := [some (zrv x0), none, some (zI x2)]) rfl rfl (zmS188_33 ih _ _ _ _ _ _ _ H)
      · refine zA_brT' (c := v33 = 0) rfl rfl rfl c35 ?_
        refine zA_tr (L := [some (zrv x0), none, some (zI x2)]) rfl rfl ?_
        refine zA_push rfl rfl zkk7 ?_
        exact zA_tr (L := [some (zrv x0), none, some (zI x2)]) rfl rfl (zmS188_33 ih _ _ _ _ _ _ _ H)
def zm188_7 (x0 : zq) (s0 : zq) (s1 : Int32) (h : zH) : zRs Int32 :=
  zob 12 s0 fun p21 i22 =>
  zlet (zsi h p21 i22 0 s1) fun h25 =>
  zob 12 x0 fun p27 i28 =>
  if (zi h25 p27 i28 0) ≤ 0 then
    zlet (zsi h25 p27 i28 43 (0 : Int32)) fun h32 =>
    zm188_20 zN0 x0 (0 : Int32) (0 : Int32) h32
  else
    some (.inl (0 : Int32), h25)
theorem zmS188_7 : ∀ (x0 : zq) (s0 : zq) (s1 : Int32) (h : zH) (r : Int32 ⊕ Nat) (h' : zH), zm188_7 x0 s0 s1 h = some (r, h') → zAt 188 7 [some (zrv x0), none, none] [zI s1, zrv s0] h (zoI r) h' := by
  intro x0 s0 s1 h r h' H
  unfold zm188_7 at H
  obtain ⟨p21, i22, e23, c24, H⟩ := zob_e H
  obtain ⟨h25, e26, H⟩ := zlet_e H
  refine zA_pf0 rfl rfl e23 c24 e26 ?_
  refine zA_aldn rfl rfl rfl ?_
  obtain ⟨p27, i28, e29, c30, H⟩ := zob_e H
  refine zA_gf0 rfl rfl (Or.inl rfl) e29 c30 ?_
  rcases zite_e H with ⟨c31, H⟩ | ⟨c31, H⟩
  · refine zA_brT (c := (zi h25 p27 i28 0) ≤ 0) rfl rfl rfl c31 ?_
    refine zA_aldn rfl rfl rfl ?_
    refine zA_push rfl rfl zkk7 ?_
    obtain ⟨h32, e33, H⟩ := zlet_e H
    refine zA_pf1 rfl rfl e29 c30 (by decide) e33 ?_
    refine zA_push rfl rfl zkk7 ?_
    refine zA_istn2 rfl rfl rfl (zset1 (L' := [some (zrv x0), some (zI (0 : Int32)), none]) rfl rfl (zpcV rfl (zcat_rv _))) ?_
    refine zA_push rfl rfl zkk7 ?_
    refine zA_istn2 rfl rfl rfl (zset1 (L' := [some (zrv x0), some (zI (0 : Int32)), some (zI (0 : Int32))]) rfl rfl (zpcV rfl rfl)) ?_
    exact zA_tr (L := [some (zrv x0), some (zI (0 : Int32)), some (zI (0 : Int32))]) rfl rfl (zmS188_20 zN0 _ _ _ _ _ _ H)
  · refine zA_brF (c := (zi h25 p27 i28 0) ≤ 0) rfl rfl rfl c31 ?_
    refine zA_push rfl rfl zkk7 ?_
    cases H
    exact zA_ret rfl rfl
-- 188: ReleaseHouseModel.rise()I
def zm188 (x0 : zq) (h : zH) : zRs Int32 :=
  zob 12 x0 fun p21 i22 =>
  if (zi h p21 i22 43) = 0 then
    zm188_7 x0 x0 (1 : Int32) h
  else
    zm188_7 x0 x0 (0 : Int32) h
theorem zmS188 {x0 : zq} {h : zH} {r : Int32 ⊕ Nat} {h' : zH} (H : zm188 x0 h = some (r, h')) : zAt 188 0 [some (zrv x0), none, none] [] h (zoI r) h' := by
  unfold zm188 at H
  refine zA_aldn rfl rfl rfl ?_
  refine zA_aldn rfl rfl rfl ?_
  obtain ⟨p21, i22, e23, c24, H⟩ := zob_e H
  refine zA_gf0 rfl rfl (Or.inr rfl) e23 c24 ?_
  rcases zite_e H with ⟨c25, H⟩ | ⟨c25, H⟩
  · refine zA_brT (c := (zi h p21 i22 43) = 0) rfl rfl rfl c25 ?_
    refine zA_push rfl rfl zkk5 ?_
    exact zA_tr (L := [some (zrv x0), none, none]) rfl rfl (zmS188_7 _ _ _ _ _ _ H)
  · refine zA_brF (c := (zi h p21 i22 43) = 0) rfl rfl rfl c25 ?_
    refine zA_push rfl rfl zkk7 ?_
    refine zA_go rfl rfl ?_
    exact zA_tr (L := [some (zrv x0), none, none]) rfl rfl (zmS188_7 _ _ _ _ _ _ H)
theorem zmE188 (x0 : zq) : zpad (zPr.2.1 188).1 (zil [zrv x0]) = [some (zrv x0), none, none] := by
  simp only [zil_A, zil_I, zil_F, zil_D, zil_N]
  rfl
-- 83: ReleaseHouse.isDead()Z
def zm83 (x0 : zq) (h : zH) : zRs Int32 :=
  zob 11 x0 fun p21 i22 =>
  zif ((zi h p21 i22 13) = 0 ∨ (zi h p21 i22 13) = 1) <|
  some (.inl (zi h p21 i22 13), h)
theorem zmS83 {x0 : zq} {h : zH} {r : Int32 ⊕ Nat} {h' : zH} (H : zm83 x0 h = some (r, h')) : zAt 83 0 [some (zrv x0)] [] h (zoI r) h' := by
  unfold zm83 at H
  refine zA_aldn rfl rfl rfl ?_
  obtain ⟨p21, i22, e23, c24, H⟩ := zob_e H
  refine zA_gf0 rfl rfl (Or.inr rfl) e23 c24 ?_
  obtain ⟨c25, H⟩ := zif_e H
  cases H
  exact zA_ret rfl (zret_Z c25)
theorem zmE83 (x0 : zq) : zpad (zPr.2.1 83).1 (zil [zrv x0]) = [some (zrv x0)] := by
  simp only [zil_A, zil_I, zil_F, zil_D, zil_N]
  rfl
-- 189: ReleaseHouseModel.isDead()Z
def zm189 (x0 : zq) (h : zH) : zRs Int32 :=
  zob 12 x0 fun p21 i22 =>
  zlet (zsi h p21 i22 0 (0 : Int32)) fun h25 =>
  zif ((zi h25 p21 i22 43) = 0 ∨ (zi h25 p21 i22 43) = 1) <|
  some (.inl (zi h25 p21 i22 43), h25)
theorem zmS189 {x0 : zq} {h : zH} {r : Int32 ⊕ Nat} {h' : zH} (H : zm189 x0 h = some (r, h')) : zAt 189 0 [some (zrv x0)] [] h (zoI r) h' := by
  unfold zm189 at H
  refine zA_aldn rfl rfl rfl ?_
  refine zA_push rfl rfl zkk7 ?_
  obtain ⟨p21, i22, e23, c24, H⟩ := zob_e H
  obtain ⟨h25, e26, H⟩ := zlet_e H
  refine zA_pf0 rfl rfl e23 c24 e26 ?_
  refine zA_aldn rfl rfl rfl ?_
  refine zA_gf0 rfl rfl (Or.inr rfl) e23 c24 ?_
  obtain ⟨c27, H⟩ := zif_e H
  cases H
  exact zA_ret rfl (zret_Z c27)
theorem zmE189 (x0 : zq) : zpad (zPr.2.1 189).1 (zil [zrv x0]) = [some (zrv x0)] := by
  simp only [zil_A, zil_I, zil_F, zil_D, zil_N]
  rfl
-- 84: ReleaseHouse.effects()I
def zm84 (x0 : zq) (h : zH) : zRs Int32 :=
  zob 11 x0 fun p21 i22 =>
  some (.inl (zi h p21 i22 14), h)
theorem zmS84 {x0 : zq} {h : zH} {r : Int32 ⊕ Nat} {h' : zH} (H : zm84 x0 h = some (r, h')) : zAt 84 0 [some (zrv x0)] [] h (zoI r) h' := by
  unfold zm84 at H
  refine zA_aldn rfl rfl rfl ?_
  obtain ⟨p21, i22, e23, c24, H⟩ := zob_e H
  refine zA_gf0 rfl rfl (Or.inl rfl) e23 c24 ?_
  cases H
  exact zA_ret rfl rfl
theorem zmE84 (x0 : zq) : zpad (zPr.2.1 84).1 (zil [zrv x0]) = [some (zrv x0)] := by
  simp only [zil_A, zil_I, zil_F, zil_D, zil_N]
  rfl
-- 190: ReleaseHouseModel.effects()I
def zm190 (x0 : zq) (h : zH) : zRs Int32 :=
  zob 12 x0 fun p21 i22 =>
  zlet (zsi h p21 i22 0 (0 : Int32)) fun h25 =>
  some (.inl (zi h25 p21 i22 45), h25)
theorem zmS190 {x0 : zq} {h : zH} {r : Int32 ⊕ Nat} {h' : zH} (H : zm190 x0 h = some (r, h')) : zAt 190 0 [some (zrv x0)] [] h (zoI r) h' := by
  unfold zm190 at H
  refine zA_aldn rfl rfl rfl ?_
  refine zA_push rfl rfl zkk7 ?_
  obtain ⟨p21, i22, e23, c24, H⟩ := zob_e H
  obtain ⟨h25, e26, H⟩ := zlet_e H
  refine zA_pf0 rfl rfl e23 c24 e26 ?_
  refine zA_aldn rfl rfl rfl ?_
  refine zA_gf0 rfl rfl (Or.inl rfl) e23 c24 ?_
  cases H
  exact zA_ret rfl rfl
theorem zmE190 (x0 : zq) : zpad (zPr.2.1 190).1 (zil [zrv x0]) = [some (zrv x0)] := by
  simp only [zil_A, zil_I, zil_F, zil_D, zil_N]
  rfl
-- 132: ReleaseHouse.spotIn(II)LReleaseHouse$Spot;
def zm132 (x0 : zq) (x1 : Int32) (x2 : Int32) (h : zH) : zRs zq :=
  zb (zm131 x1 (0 : Int32) (3 : Int32) h) fun _ h21 =>
  zb (zm131 x2 (0 : Int32) (2 : Int32) h21) fun _ h22 =>
  zob 11 x0 fun p23 i24 =>
  zra (zr h22 p23 i24 6) x1 h22 fun v34 =>
  zob 8 v34 fun p36 i37 =>
  zra (zr h22 p36 i37 0) x2 h22 fun v47 =>
  some (.inl v47, h22)
theorem zmS132 {x0 : zq} {x1 : Int32} {x2 : Int32} {h : zH} {r : zq ⊕ Nat} {h' : zH} (H : zm132 x0 x1 x2 h = some (r, h')) : zAt 132 0 [some (zrv x0), some (zI x1), some (zI x2)] [] h (zoA r) h' := by
  unfold zm132 at H
  refine zA_ldn rfl rfl rfl ?_
  refine zA_push rfl rfl zkk7 ?_
  refine zA_push rfl rfl zkk3 ?_
  rcases zb_e H with ⟨u50, h21, C, H⟩ | ⟨E, h21, C, H⟩
  · refine zA_callU (as := [zI x1, zI (0 : Int32), zI (3 : Int32)]) (st' := []) rfl rfl rfl rfl rfl (zmE131 _ _ _) rfl (zmS131 C) ?_
    refine zA_ldn rfl rfl rfl ?_
    refine zA_push rfl rfl zkk7 ?_
    refine zA_push rfl rfl zkk23 ?_
    rcases zb_e H with ⟨u49, h22, C, H⟩ | ⟨E, h22, C, H⟩
    · refine zA_callU (as := [zI x2, zI (0 : Int32), zI (2 : Int32)]) (st' := []) rfl rfl rfl rfl rfl (zmE131 _ _ _) rfl (zmS131 C) ?_
      refine zA_aldn rfl rfl rfl ?_
      obtain ⟨p23, i24, e25, c26, H⟩ := zob_e H
      refine zA_gf3 rfl rfl e25 c26 ?_
      refine zA_ldn rfl rfl rfl ?_
      obtain ⟨p27, i28, j29, v34, e30, c31, c32, e33, e35, H⟩ := zra_e H
      refine zA_aal rfl rfl e30 c31 c32 e33 e35 ?_
      obtain ⟨p36, i37, e38, c39, H⟩ := zob_e H
      refine zA_gf3 rfl rfl e38 c39 ?_
      refine zA_ldn rfl rfl rfl ?_
      obtain ⟨p40, i41, j42, v47, e43, c44, c45, e46, e48, H⟩ := zra_e H
      refine zA_aal rfl rfl e43 c44 c45 e46 e48 ?_
      cases H
      exact zA_ret rfl (zret_A _)
    · cases H
      exact zA_callX (as := [zI x2, zI (0 : Int32), zI (2 : Int32)]) (st' := []) rfl rfl rfl rfl (zmE131 _ _ _) rfl rfl rfl (zmS131 C)
  · cases H
    exact zA_callX (as := [zI x1, zI (0 : Int32), zI (3 : Int32)]) (st' := []) rfl rfl rfl rfl (zmE131 _ _ _) rfl rfl rfl (zmS131 C)
theorem zmE132 (x0 : zq) (x1 : Int32) (x2 : Int32) : zpad (zPr.2.1 132).1 (zil [zrv x0, zI x1, zI x2]) = [some (zrv x0), some (zI x1), some (zI x2)] := by
  simp only [zil_A, zil_I, zil_F, zil_D, zil_N]
  rfl
-- 134: ReleaseHouse.numberOf(LReleaseHouse$Artefact;)I
def zm134 (x0 : zq) (h : zH) : zRs Int32 :=
  if x0 = none then
    some (.inl (-1 : Int32), h)
  else
    zob 0 x0 fun p22 i23 =>
    some (.inl (zi h p22 i23 0), h)
theorem zmS134 {x0 : zq} {h : zH} {r : Int32 ⊕ Nat} {h' : zH} (H : zm134 x0 h = some (r, h')) : zAt 134 0 [some (zrv x0)] [] h (zoI r) h' := by
  unfold zm134 at H
  refine zA_aldn rfl rfl rfl ?_
  rcases zite_e H with ⟨c21, H⟩ | ⟨c21, H⟩
  · refine zA_brF' (c := x0 = none) rfl rfl zIf_nonnull c21 ?_
    refine zA_push rfl rfl zkk6 ?_
    refine zA_go rfl rfl ?_
    refine zA_tr (L := [none]) rfl rfl ?_
    cases H
    exact zA_ret rfl rfl
  · refine zA_brT' (c := x0 = none) rfl rfl zIf_nonnull c21 ?_
    refine zA_aldn rfl rfl rfl ?_
    obtain ⟨p22, i23, e24, c25, H⟩ := zob_e H
    refine zA_gf0 rfl rfl (Or.inl rfl) e24 c25 ?_
    refine zA_tr (L := [none]) rfl rfl ?_
    cases H
    exact zA_ret rfl rfl
theorem zmE134 (x0 : zq) : zpad (zPr.2.1 134).1 (zil [zrv x0]) = [some (zrv x0)] := by
  simp only [zil_A, zil_I, zil_F, zil_D, zil_N]
  rfl
-- 85: ReleaseHouse.stable(II)I
def zm85 (x0 : zq) (x1 : Int32) (x2 : Int32) (h : zH) : zRs Int32 :=
  zob 11 x0 fun p21 i22 =>
  zb (zm132 x0 x1 x2 h) fun x26 h25 =>
  zob 9 x26 fun p27 i28 =>
  zb (zm134 (zr h25 p27 i28 0) h25) fun x32 h31 =>
  some (.inl x32, h31)
theorem zmS85 {x0 : zq} {x1 : Int32} {x2 : Int32} {h : zH} {r : Int32 ⊕ Nat} {h' : zH} (H : zm85 x0 x1 x2 h = some (r, h')) : zAt 85 0 [some (zrv x0), some (zI x1), some (zI x2)] [] h (zoI r) h' := by
  unfold zm85 at H
  refine zA_aldn rfl rfl rfl ?_
  refine zA_ldn rfl rfl rfl ?_
  refine zA_ldn rfl rfl rfl ?_
  obtain ⟨p21, i22, e23, c24, H⟩ := zob_e H
  rcases zb_e H with ⟨x26, h25, C, H⟩ | ⟨E, h25, C, H⟩
  · refine zA_callV (as := [zrv x0, zI x1, zI x2]) (st' := []) rfl rfl rfl (zrcv_Q e23 c24) rfl (zmE132 _ _ _) rfl (zmS132 C) ?_
    obtain ⟨p27, i28, e29, c30, H⟩ := zob_e H
    refine zA_gf3 rfl rfl e29 c30 ?_
    rcases zb_e H with ⟨x32, h31, C, H⟩ | ⟨E, h31, C, H⟩
    · refine zA_callV (as := [zrv (zr h25 p27 i28 0)]) (st' := []) rfl rfl rfl rfl rfl (zmE134 _) rfl (zmS134 C) ?_
      cases H
      exact zA_ret rfl rfl
    · cases H
      exact zA_callX (as := [zrv (zr h25 p27 i28 0)]) (st' := []) rfl rfl rfl rfl (zmE134 _) rfl rfl rfl (zmS134 C)
  · cases H
    exact zA_callX (as := [zrv x0, zI x1, zI x2]) (st' := []) rfl rfl (zrcv_Q e23 c24) rfl (zmE132 _ _ _) rfl rfl rfl (zmS132 C)
theorem zmE85 (x0 : zq) (x1 : Int32) (x2 : Int32) : zpad (zPr.2.1 85).1 (zil [zrv x0, zI x1, zI x2]) = [some (zrv x0), some (zI x1), some (zI x2)] := by
  simp only [zil_A, zil_I, zil_F, zil_D, zil_N]
  rfl
-- 256: ReleaseHouseLaw.stable(LReleaseHouse;II[J)I
def zm256 (x0 : zq) (x1 : Int32) (x2 : Int32) (x3 : zq) (h : zH) : zRs Int32 :=
  zob 11 x0 fun p21 i22 =>
  zbH [(0, 8, 0, 1)] 5 (zm85 x0 x1 x2 h) fun x26 h25 =>
  zar 3 x3 (0 : Int32) h25 fun p27 i28 j29 =>
  zlet (zsl h25 p27 i28 j29 (x26.toInt64)) fun h34 =>
  some (.inl (0 : Int32), h34)
theorem zmS256 {x0 : zq} {x1 : Int32} {x2 : Int32} {x3 : zq} {h : zH} {r : Int32 ⊕ Nat} {h' : zH} (H : zm256 x0 x1 x2 x3 h = some (r, h')) : zAt 256 0 [some (zrv x0), some (zI x1), some (zI x2), some (zrv x3), none] [] h (zoI r) h' := by
  unfold zm256 at H
  refine zA_aldn rfl rfl rfl ?_
  refine zA_push rfl rfl zkk7 ?_
  refine zA_aldn rfl rfl rfl ?_
  refine zA_ldn rfl rfl rfl ?_
  refine zA_ldn rfl rfl rfl ?_
  obtain ⟨p21, i22, e23, c24, H⟩ := zob_e H
  rcases zbH_e H with ⟨x26, h25, C, H⟩ | ⟨E, h25, c36, C, hc, H⟩
  · refine zA_callV (as := [zrv x0, zI x1, zI x2]) (st' := [zI (0 : Int32), zrv x3]) rfl rfl rfl (zrcv_Q e23 c24) rfl (zmE85 _ _ _) rfl (zmS85 C) ?_
    refine zA_st (st' := [zJ (x26.toInt64), zI (0 : Int32), zrv x3]) rfl rfl rfl rfl ?_
    obtain ⟨p27, i28, j29, e30, c31, c32, e33, H⟩ := zar_e H
    obtain ⟨h34, e35, H⟩ := zlet_e H
    refine zA_las rfl rfl e30 c31 c32 e33 e35 ?_
    refine zA_go rfl rfl ?_
    refine zA_tr (L := [none, none, none, none, none]) rfl rfl ?_
    refine zA_push rfl rfl zkk7 ?_
    cases H
    exact zA_ret rfl rfl
  · cases H
    exact zA_callH (as := [zrv x0, zI x1, zI x2]) (st' := [zI (0 : Int32), zrv x3]) rfl rfl (zrcv_Q e23 c24) rfl (zmE85 _ _ _) rfl rfl rfl (List.cons_ne_nil _ _) hc (zmS85 C)
theorem zmE256 (x0 : zq) (x1 : Int32) (x2 : Int32) (x3 : zq) : zpad (zPr.2.1 256).1 (zil [zrv x0, zI x1, zI x2, zrv x3]) = [some (zrv x0), some (zI x1), some (zI x2), some (zrv x3), none] := by
  simp only [zil_A, zil_I, zil_F, zil_D, zil_N]
  rfl
def zm191_10 (x0 : zq) (s0 : zq) (s1 : Int32) (h : zH) : zRs Int32 :=
  zob 12 s0 fun p21 i22 =>
  zlet (zsi h p21 i22 0 s1) fun h25 =>
  zob 12 x0 fun p27 i28 =>
  if (zi h25 p27 i28 0) = 0 then
    some (.inl (1 : Int32), h25)
  else
    some (.inl (0 : Int32), h25)
theorem zmS191_10 : ∀ (x0 : zq) (s0 : zq) (s1 : Int32) (h : zH) (r : Int32 ⊕ Nat) (h' : zH), zm191_10 x0 s0 s1 h = some (r, h') → zAt 191 10 [some (zrv x0), none, none] [zI s1, zrv s0] h (zoI r) h' := by
  intro x0 s0 s1 h r h' H
  unfold zm191_10 at H
  obtain ⟨p21, i22, e23, c24, H⟩ := zob_e H
  obtain ⟨h25, e26, H⟩ := zlet_e H
  refine zA_pf0 rfl rfl e23 c24 e26 ?_
  refine zA_aldn rfl rfl rfl ?_
  obtain ⟨p27, i28, e29, c30, H⟩ := zob_e H
  refine zA_gf0 rfl rfl (Or.inl rfl) e29 c30 ?_
  rcases zite_e H with ⟨c31, H⟩ | ⟨c31, H⟩
  · refine zA_brF' (c := (zi h25 p27 i28 0) = 0) rfl rfl rfl c31 ?_
    refine zA_push rfl rfl zkk5 ?_
    refine zA_go rfl rfl ?_
    refine zA_tr (L := [none, none, none]) rfl rfl ?_
    cases H
    exact zA_ret rfl (zret_Z (by decide))
  · refine zA_brT' (c := (zi h25 p27 i28 0) = 0) rfl rfl rfl c31 ?_
    refine zA_tr (L := [none, none, none]) rfl rfl ?_
    refine zA_push rfl rfl zkk7 ?_
    cases H
    exact zA_ret rfl (zret_Z (by decide))
-- 191: ReleaseHouseModel.isPlace(II)Z
def zm191 (x0 : zq) (x1 : Int32) (x2 : Int32) (h : zH) : zRs Int32 :=
  zb (zm140 x1 h) fun x22 h21 =>
  if x22 = 0 then
    zm191_10 x0 x0 (1 : Int32) h21
  else
    zb (zm141 x2 h21) fun x25 h24 =>
    if x25 = 0 then
      zm191_10 x0 x0 (1 : Int32) h24
    else
      zm191_10 x0 x0 (0 : Int32) h24
theorem zmS191 {x0 : zq} {x1 : Int32} {x2 : Int32} {h : zH} {r : Int32 ⊕ Nat} {h' : zH} (H : zm191 x0 x1 x2 h = some (r, h')) : zAt 191 0 [some (zrv x0), some (zI x1), some (zI x2)] [] h (zoI r) h' := by
  unfold zm191 at H
  refine zA_aldn rfl rfl rfl ?_
  refine zA_ldn rfl rfl rfl ?_
  rcases zb_e H with ⟨x22, h21, C, H⟩ | ⟨E, h21, C, H⟩
  · refine zA_callV (as := [zI x1]) (st' := [zrv x0]) rfl rfl rfl rfl rfl (zmE140 _) rfl (zmS140 C) ?_
    rcases zite_e H with ⟨c23, H⟩ | ⟨c23, H⟩
    · refine zA_brT (c := x22 = 0) rfl rfl rfl c23 ?_
      refine zA_tr (L := [some (zrv x0), none, none]) rfl rfl ?_
      refine zA_push rfl rfl zkk5 ?_
      exact zA_tr (L := [some (zrv x0), none, none]) rfl rfl (zmS191_10 _ _ _ _ _ _ H)
    · refine zA_brF (c := x22 = 0) rfl rfl rfl c23 ?_
      refine zA_ldn rfl rfl rfl ?_
      rcases zb_e H with ⟨x25, h24, C, H⟩ | ⟨E, h24, C, H⟩
      · refine zA_callV (as := [zI x2]) (st' := [zrv x0]) rfl rfl rfl rfl rfl (zmE141 _) rfl (zmS141 C) ?_
        rcases zite_e H with ⟨c26, H⟩ | ⟨c26, H⟩
        · refine zA_brT (c := x25 = 0) rfl rfl rfl c26 ?_
          refine zA_tr (L := [some (zrv x0), none, none]) rfl rfl ?_
          refine zA_push rfl rfl zkk5 ?_
          exact zA_tr (L := [some (zrv x0), none, none]) rfl rfl (zmS191_10 _ _ _ _ _ _ H)
        · refine zA_brF (c := x25 = 0) rfl rfl rfl c26 ?_
          refine zA_push rfl rfl zkk7 ?_
          refine zA_go rfl rfl ?_
          exact zA_tr (L := [some (zrv x0), none, none]) rfl rfl (zmS191_10 _ _ _ _ _ _ H)
      · cases H
        exact zA_callX (as := [zI x2]) (st' := [zrv x0]) rfl rfl rfl rfl (zmE141 _) rfl rfl rfl (zmS141 C)
  · cases H
    exact zA_callX (as := [zI x1]) (st' := [zrv x0]) rfl rfl rfl rfl (zmE140 _) rfl rfl rfl (zmS140 C)
theorem zmE191 (x0 : zq) (x1 : Int32) (x2 : Int32) : zpad (zPr.2.1 191).1 (zil [zrv x0, zI x1, zI x2]) = [some (zrv x0), some (zI x1), some (zI x2)] := by
  simp only [zil_A, zil_I, zil_F, zil_D, zil_N]
  rfl
-- 192: ReleaseHouseModel.stable(II)I
def zm192 (x0 : zq) (x1 : Int32) (x2 : Int32) (h : zH) : zRs Int32 :=
  zob 12 x0 fun p21 i22 =>
  zb (zm191 x0 x1 x2 h) fun x26 h25 =>
  if x26 = 0 then
    some (.inl (0 : Int32), h25)
  else
    zri (zr h25 p21 i22 12) (((3 : Int32) * x1) + x2) h25 fun v35 =>
    some (.inl v35, h25)
theorem zmS192 {x0 : zq} {x1 : Int32} {x2 : Int32} {h : zH} {r : Int32 ⊕ Nat} {h' : zH} (H : zm192 x0 x1 x2 h = some (r, h')) : zAt 192 0 [some (zrv x0), some (zI x1), some (zI x2)] [] h (zoI r) h' := by
  unfold zm192 at H
  refine zA_aldn rfl rfl rfl ?_
  refine zA_ldn rfl rfl rfl ?_
  refine zA_ldn rfl rfl rfl ?_
  obtain ⟨p21, i22, e23, c24, H⟩ := zob_e H
  rcases zb_e H with ⟨x26, h25, C, H⟩ | ⟨E, h25, C, H⟩
  · refine zA_callV (as := [zrv x0, zI x1, zI x2]) (st' := []) rfl rfl rfl (zrcv_Q e23 c24) rfl (zmE191 _ _ _) rfl (zmS191 C) ?_
    rcases zite_e H with ⟨c27, H⟩ | ⟨c27, H⟩
    · refine zA_brT (c := x26 = 0) rfl rfl rfl c27 ?_
      refine zA_tr (L := [none, none, none]) rfl rfl ?_
      refine zA_push rfl rfl zkk7 ?_
      cases H
      exact zA_ret rfl rfl
    · refine zA_brF (c := x26 = 0) rfl rfl rfl c27 ?_
      refine zA_aldn rfl rfl rfl ?_
      refine zA_gf3 rfl rfl e23 c24 ?_
      refine zA_push rfl rfl zkk3 ?_
      refine zA_ldn rfl rfl rfl ?_
      refine zA_st (st' := [zI ((3 : Int32) * x1), zrv (zr h25 p21 i22 12)]) rfl rfl rfl rfl ?_
      refine zA_ldn rfl rfl rfl ?_
      refine zA_st (st' := [zI (((3 : Int32) * x1) + x2), zrv (zr h25 p21 i22 12)]) rfl rfl rfl rfl ?_
      obtain ⟨p28, i29, j30, v35, e31, c32, c33, e34, e36, H⟩ := zri_e H
      refine zA_ial rfl rfl e31 c32 c33 e34 e36 ?_
      refine zA_go rfl rfl ?_
      refine zA_tr (L := [none, none, none]) rfl rfl ?_
      cases H
      exact zA_ret rfl rfl
  · cases H
    exact zA_callX (as := [zrv x0, zI x1, zI x2]) (st' := []) rfl rfl (zrcv_Q e23 c24) rfl (zmE191 _ _ _) rfl rfl rfl (zmS191 C)
theorem zmE192 (x0 : zq) (x1 : Int32) (x2 : Int32) : zpad (zPr.2.1 192).1 (zil [zrv x0, zI x1, zI x2]) = [some (zrv x0), some (zI x1), some (zI x2)] := by
  simp only [zil_A, zil_I, zil_F, zil_D, zil_N]
  rfl
-- 86: ReleaseHouse.candidate(II)I
def zm86 (x0 : zq) (x1 : Int32) (x2 : Int32) (h : zH) : zRs Int32 :=
  zob 11 x0 fun p21 i22 =>
  zb (zm132 x0 x1 x2 h) fun x26 h25 =>
  zob 9 x26 fun p27 i28 =>
  zb (zm134 (zr h25 p27 i28 1) h25) fun x32 h31 =>
  some (.inl x32, h31)
theorem zmS86 {x0 : zq} {x1 : Int32} {x2 : Int32} {h : zH} {r : Int32 ⊕ Nat} {h' : zH} (H : zm86 x0 x1 x2 h = some (r, h')) : zAt 86 0 [some (zrv x0), some (zI x1), some (zI x2)] [] h (zoI r) h' := by
  unfold zm86 at H
  refine zA_aldn rfl rfl rfl ?_
  refine zA_ldn rfl rfl rfl ?_
  refine zA_ldn rfl rfl rfl ?_
  obtain ⟨p21, i22, e23, c24, H⟩ := zob_e H
  rcases zb_e H with ⟨x26, h25, C, H⟩ | ⟨E, h25, C, H⟩
  · refine zA_callV (as := [zrv x0, zI x1, zI x2]) (st' := []) rfl rfl rfl (zrcv_Q e23 c24) rfl (zmE132 _ _ _) rfl (zmS132 C) ?_
    obtain ⟨p27, i28, e29, c30, H⟩ := zob_e H
    refine zA_gf3 rfl rfl e29 c30 ?_
    rcases zb_e H with ⟨x32, h31, C, H⟩ | ⟨E, h31, C, H⟩
    · refine zA_callV (as := [zrv (zr h25 p27 i28 1)]) (st' := []) rfl rfl rfl rfl rfl (zmE134 _) rfl (zmS134 C) ?_
      cases H
      exact zA_ret rfl rfl
    · cases H
      exact zA_callX (as := [zrv (zr h25 p27 i28 1)]) (st' := []) rfl rfl rfl rfl (zmE134 _) rfl rfl rfl (zmS134 C)
  · cases H
    exact zA_callX (as := [zrv x0, zI x1, zI x2]) (st' := []) rfl rfl (zrcv_Q e23 c24) rfl (zmE132 _ _ _) rfl rfl rfl (zmS132 C)
theorem zmE86 (x0 : zq) (x1 : Int32) (x2 : Int32) : zpad (zPr.2.1 86).1 (zil [zrv x0, zI x1, zI x2]) = [some (zrv x0), some (zI x1), some (zI x2)] := by
  simp only [zil_A, zil_I, zil_F, zil_D, zil_N]
  rfl
-- 257: ReleaseHouseLaw.candidate(LReleaseHouse;II[J)I
def zm257 (x0 : zq) (x1 : Int32) (x2 : Int32) (x3 : zq) (h : zH) : zRs Int32 :=
  zob 11 x0 fun p21 i22 =>
  zbH [(0, 8, 0, 1)] 5 (zm86 x0 x1 x2 h) fun x26 h25 =>
  zar 3 x3 (0 : Int32) h25 fun p27 i28 j29 =>
  zlet (zsl h25 p27 i28 j29 (x26.toInt64)) fun h34 =>
  some (.inl (0 : Int32), h34)
theorem zmS257 {x0 : zq} {x1 : Int32} {x2 : Int32} {x3 : zq} {h : zH} {r : Int32 ⊕ Nat} {h' : zH} (H : zm257 x0 x1 x2 x3 h = some (r, h')) : zAt 257 0 [some (zrv x0), some (zI x1), some (zI x2), some (zrv x3), none] [] h (zoI r) h' := by
  unfold zm257 at H
  refine zA_aldn rfl rfl rfl ?_
  refine zA_push rfl rfl zkk7 ?_
  refine zA_aldn rfl rfl rfl ?_
  refine zA_ldn rfl rfl rfl ?_
  refine zA_ldn rfl rfl rfl ?_
  obtain ⟨p21, i22, e23, c24, H⟩ := zob_e H
  rcases zbH_e H with ⟨x26, h25, C, H⟩ | ⟨E, h25, c36, C, hc, H⟩
  · refine zA_callV (as := [zrv x0, zI x1, zI x2]) (st' := [zI (0 : Int32), zrv x3]) rfl rfl rfl (zrcv_Q e23 c24) rfl (zmE86 _ _ _) rfl (zmS86 C) ?_
    refine zA_st (st' := [zJ (x26.toInt64), zI (0 : Int32), zrv x3]) rfl rfl rfl rfl ?_
    obtain ⟨p27, i28, j29, e30, c31, c32, e33, H⟩ := zar_e H
    obtain ⟨h34, e35, H⟩ := zlet_e H
    refine zA_las rfl rfl e30 c31 c32 e33 e35 ?_
    refine zA_go rfl rfl ?_
    refine zA_tr (L := [none, none, none, none, none]) rfl rfl ?_
    refine zA_push rfl rfl zkk7 ?_
    cases H
    exact zA_ret rfl rfl
  · cases H
    exact zA_callH (as := [zrv x0, zI x1, zI x2]) (st' := [zI (0 : Int32), zrv x3]) rfl rfl (zrcv_Q e23 c24) rfl (zmE86 _ _ _) rfl rfl rfl (List.cons_ne_nil _ _) hc (zmS86 C)
theorem zmE257 (x0 : zq) (x1 : Int32) (x2 : Int32) (x3 : zq) : zpad (zPr.2.1 257).1 (zil [zrv x0, zI x1, zI x2, zrv x3]) = [some (zrv x0), some (zI x1), some (zI x2), some (zrv x3), none] := by
  simp only [zil_A, zil_I, zil_F, zil_D, zil_N]
  rfl
-- 193: ReleaseHouseModel.candidate(II)I
def zm193 (x0 : zq) (x1 : Int32) (x2 : Int32) (h : zH) : zRs Int32 :=
  zob 12 x0 fun p21 i22 =>
  zb (zm191 x0 x1 x2 h) fun x26 h25 =>
  if x26 = 0 then
    some (.inl (0 : Int32), h25)
  else
    zri (zr h25 p21 i22 13) (((3 : Int32) * x1) + x2) h25 fun v35 =>
    some (.inl v35, h25)
theorem zmS193 {x0 : zq} {x1 : Int32} {x2 : Int32} {h : zH} {r : Int32 ⊕ Nat} {h' : zH} (H : zm193 x0 x1 x2 h = some (r, h')) : zAt 193 0 [some (zrv x0), some (zI x1), some (zI x2)] [] h (zoI r) h' := by
  unfold zm193 at H
  refine zA_aldn rfl rfl rfl ?_
  refine zA_ldn rfl rfl rfl ?_
  refine zA_ldn rfl rfl rfl ?_
  obtain ⟨p21, i22, e23, c24, H⟩ := zob_e H
  rcases zb_e H with ⟨x26, h25, C, H⟩ | ⟨E, h25, C, H⟩
  · refine zA_callV (as := [zrv x0, zI x1, zI x2]) (st' := []) rfl rfl rfl (zrcv_Q e23 c24) rfl (zmE191 _ _ _) rfl (zmS191 C) ?_
    rcases zite_e H with ⟨c27, H⟩ | ⟨c27, H⟩
    · refine zA_brT (c := x26 = 0) rfl rfl rfl c27 ?_
      refine zA_tr (L := [none, none, none]) rfl rfl ?_
      refine zA_push rfl rfl zkk7 ?_
      cases H
      exact zA_ret rfl rfl
    · refine zA_brF (c := x26 = 0) rfl rfl rfl c27 ?_
      refine zA_aldn rfl rfl rfl ?_
      refine zA_gf3 rfl rfl e23 c24 ?_
      refine zA_push rfl rfl zkk3 ?_
      refine zA_ldn rfl rfl rfl ?_
      refine zA_st (st' := [zI ((3 : Int32) * x1), zrv (zr h25 p21 i22 13)]) rfl rfl rfl rfl ?_
      refine zA_ldn rfl rfl rfl ?_
      refine zA_st (st' := [zI (((3 : Int32) * x1) + x2), zrv (zr h25 p21 i22 13)]) rfl rfl rfl rfl ?_
      obtain ⟨p28, i29, j30, v35, e31, c32, c33, e34, e36, H⟩ := zri_e H
      refine zA_ial rfl rfl e31 c32 c33 e34 e36 ?_
      refine zA_go rfl rfl ?_
      refine zA_tr (L := [none, none, none]) rfl rfl ?_
      cases H
      exact zA_ret rfl rfl
  · cases H
    exact zA_callX (as := [zrv x0, zI x1, zI x2]) (st' := []) rfl rfl (zrcv_Q e23 c24) rfl (zmE191 _ _ _) rfl rfl rfl (zmS191 C)
theorem zmE193 (x0 : zq) (x1 : Int32) (x2 : Int32) : zpad (zPr.2.1 193).1 (zil [zrv x0, zI x1, zI x2]) = [some (zrv x0), some (zI x1), some (zI x2)] := by
  simp only [zil_A, zil_I, zil_F, zil_D, zil_N]
  rfl
-- 87: ReleaseHouse.share(II)I
def zm87 (x0 : zq) (x1 : Int32) (x2 : Int32) (h : zH) : zRs Int32 :=
  zob 11 x0 fun p21 i22 =>
  zb (zm132 x0 x1 x2 h) fun x26 h25 =>
  zob 9 x26 fun p27 i28 =>
  some (.inl (zi h25 p27 i28 2), h25)
theorem zmS87 {x0 : zq} {x1 : Int32} {x2 : Int32} {h : zH} {r : Int32 ⊕ Nat} {h' : zH} (H : zm87 x0 x1 x2 h = some (r, h')) : zAt 87 0 [some (zrv x0), some (zI x1), some (zI x2)] [] h (zoI r) h' := by
  unfold zm87 at H
  refine zA_aldn rfl rfl rfl ?_
  refine zA_ldn rfl rfl rfl ?_
  refine zA_ldn rfl rfl rfl ?_
  obtain ⟨p21, i22, e23, c24, H⟩ := zob_e H
  rcases zb_e H with ⟨x26, h25, C, H⟩ | ⟨E, h25, C, H⟩
  · refine zA_callV (as := [zrv x0, zI x1, zI x2]) (st' := []) rfl rfl rfl (zrcv_Q e23 c24) rfl (zmE132 _ _ _) rfl (zmS132 C) ?_
    obtain ⟨p27, i28, e29, c30, H⟩ := zob_e H
    refine zA_gf0 rfl rfl (Or.inl rfl) e29 c30 ?_
    cases H
    exact zA_ret rfl rfl
  · cases H
    exact zA_callX (as := [zrv x0, zI x1, zI x2]) (st' := []) rfl rfl (zrcv_Q e23 c24) rfl (zmE132 _ _ _) rfl rfl rfl (zmS132 C)
theorem zmE87 (x0 : zq) (x1 : Int32) (x2 : Int32) : zpad (zPr.2.1 87).1 (zil [zrv x0, zI x1, zI x2]) = [some (zrv x0), some (zI x1), some (zI x2)] := by
  simp only [zil_A, zil_I, zil_F, zil_D, zil_N]
  rfl
-- 258: ReleaseHouseLaw.share(LReleaseHouse;II[J)I
def zm258 (x0 : zq) (x1 : Int32) (x2 : Int32) (x3 : zq) (h : zH) : zRs Int32 :=
  zob 11 x0 fun p21 i22 =>
  zbH [(0, 8, 0, 1)] 5 (zm87 x0 x1 x2 h) fun x26 h25 =>
  zar 3 x3 (0 : Int32) h25 fun p27 i28 j29 =>
  zlet (zsl h25 p27 i28 j29 (x26.toInt64)) fun h34 =>
  some (.inl (0 : Int32), h34)
theorem zmS258 {x0 : zq} {x1 : Int32} {x2 : Int32} {x3 : zq} {h : zH} {r : Int32 ⊕ Nat} {h' : zH} (H : zm258 x0 x1 x2 x3 h = some (r, h')) : zAt 258 0 [some (zrv x0), some (zI x1), some (zI x2), some (zrv x3), none] [] h (zoI r) h' := by
  unfold zm258 at H
  refine zA_aldn rfl rfl rfl ?_
  refine zA_push rfl rfl zkk7 ?_
  refine zA_aldn rfl rfl rfl ?_
  refine zA_ldn rfl rfl rfl ?_
  refine zA_ldn rfl rfl rfl ?_
  obtain ⟨p21, i22, e23, c24, H⟩ := zob_e H
  rcases zbH_e H with ⟨x26, h25, C, H⟩ | ⟨E, h25, c36, C, hc, H⟩
  · refine zA_callV (as := [zrv x0, zI x1, zI x2]) (st' := [zI (0 : Int32), zrv x3]) rfl rfl rfl (zrcv_Q e23 c24) rfl (zmE87 _ _ _) rfl (zmS87 C) ?_
    refine zA_st (st' := [zJ (x26.toInt64), zI (0 : Int32), zrv x3]) rfl rfl rfl rfl ?_
    obtain ⟨p27, i28, j29, e30, c31, c32, e33, H⟩ := zar_e H
    obtain ⟨h34, e35, H⟩ := zlet_e H
    refine zA_las rfl rfl e30 c31 c32 e33 e35 ?_
    refine zA_go rfl rfl ?_
    refine zA_tr (L := [none, none, none, none, none]) rfl rfl ?_
    refine zA_push rfl rfl zkk7 ?_
    cases H
    exact zA_ret rfl rfl
  · cases H
    exact zA_callH (as := [zrv x0, zI x1, zI x2]) (st' := [zI (0 : Int32), zrv x3]) rfl rfl (zrcv_Q e23 c24) rfl (zmE87 _ _ _) rfl rfl rfl (List.cons_ne_nil _ _) hc (zmS87 C)
theorem zmE258 (x0 : zq) (x1 : Int32) (x2 : Int32) (x3 : zq) : zpad (zPr.2.1 258).1 (zil [zrv x0, zI x1, zI x2, zrv x3]) = [some (zrv x0), some (zI x1), some (zI x2), some (zrv x3), none] := by
  simp only [zil_A, zil_I, zil_F, zil_D, zil_N]
  rfl
-- 194: ReleaseHouseModel.share(II)I
def zm194 (x0 : zq) (x1 : Int32) (x2 : Int32) (h : zH) : zRs Int32 :=
  zob 12 x0 fun p21 i22 =>
  zb (zm191 x0 x1 x2 h) fun x26 h25 =>
  if x26 = 0 then
    some (.inl (0 : Int32), h25)
  else
    zri (zr h25 p21 i22 14) (((3 : Int32) * x1) + x2) h25 fun v35 =>
    some (.inl v35, h25)
theorem zmS194 {x0 : zq} {x1 : Int32} {x2 : Int32} {h : zH} {r : Int32 ⊕ Nat} {h' : zH} (H : zm194 x0 x1 x2 h = some (r, h')) : zAt 194 0 [some (zrv x0), some (zI x1), some (zI x2)] [] h (zoI r) h' := by
  unfold zm194 at H
  refine zA_aldn rfl rfl rfl ?_
  refine zA_ldn rfl rfl rfl ?_
  refine zA_ldn rfl rfl rfl ?_
  obtain ⟨p21, i22, e23, c24, H⟩ := zob_e H
  rcases zb_e H with ⟨x26, h25, C, H⟩ | ⟨E, h25, C, H⟩
  · refine zA_callV (as := [zrv x0, zI x1, zI x2]) (st' := []) rfl rfl rfl (zrcv_Q e23 c24) rfl (zmE191 _ _ _) rfl (zmS191 C) ?_
    rcases zite_e H with ⟨c27, H⟩ | ⟨c27, H⟩
    · refine zA_brT (c := x26 = 0) rfl rfl rfl c27 ?_
      refine zA_tr (L := [none, none, none]) rfl rfl ?_
      refine zA_push rfl rfl zkk7 ?_
      cases H
      exact zA_ret rfl rfl
    · refine zA_brF (c := x26 = 0) rfl rfl rfl c27 ?_
      refine zA_aldn rfl rfl rfl ?_
      refine zA_gf3 rfl rfl e23 c24 ?_
      refine zA_push rfl rfl zkk3 ?_
      refine zA_ldn rfl rfl rfl ?_
      refine zA_st (st' := [zI ((3 : Int32) * x1), zrv (zr h25 p21 i22 14)]) rfl rfl rfl rfl ?_
      refine zA_ldn rfl rfl rfl ?_
      refine zA_st (st' := [zI (((3 : Int32) * x1) + x2), zrv (zr h25 p21 i22 14)]) rfl rfl rfl rfl ?_
      obtain ⟨p28, i29, j30, v35, e31, c32, c33, e34, e36, H⟩ := zri_e H
      refine zA_ial rfl rfl e31 c32 c33 e34 e36 ?_
      refine zA_go rfl rfl ?_
      refine zA_tr (L := [none, none, none]) rfl rfl ?_
      cases H
      exact zA_ret rfl rfl
  · cases H
    exact zA_callX (as := [zrv x0, zI x1, zI x2]) (st' := []) rfl rfl (zrcv_Q e23 c24) rfl (zmE191 _ _ _) rfl rfl rfl (zmS191 C)
theorem zmE194 (x0 : zq) (x1 : Int32) (x2 : Int32) : zpad (zPr.2.1 194).1 (zil [zrv x0, zI x1, zI x2]) = [some (zrv x0), some (zI x1), some (zI x2)] := by
  simp only [zil_A, zil_I, zil_F, zil_D, zil_N]
  rfl
-- 135: ReleaseHouse.ringOf(I)I
def zm135 (x0 : Int32) (h : zH) : zRs Int32 :=
  zlet (x0 - x0 / (10 : Int32) * (10 : Int32)) fun x22 =>
  if x22 = 0 then
    some (.inl (0 : Int32), h)
  else
    if (3 : Int32) < x22 then
      some (.inl (2 : Int32), h)
    else
      some (.inl (1 : Int32), h)
theorem zmS135 {x0 : Int32} {h : zH} {r : Int32 ⊕ Nat} {h' : zH} (H : zm135 x0 h = some (r, h')) : zAt 135 0 [some (zI x0), none] [] h (zoI r) h' := by
  unfold zm135 at H
  refine zA_ldn rfl rfl rfl ?_
  refine zA_push rfl rfl zkk27 ?_
  refine zA_rem rfl rfl (by decide) ?_
  obtain ⟨x22, e23, H⟩ := zlet_e H
  refine zA_istn2 rfl rfl e23 (zset1 (L' := [some (zI x0), some (zI x22)]) rfl rfl (zpcV rfl rfl)) ?_
  refine zA_ldn rfl rfl rfl ?_
  rcases zite_e H with ⟨c24, H⟩ | ⟨c24, H⟩
  · refine zA_brF' (c := x22 = 0) rfl rfl rfl c24 ?_
    refine zA_push rfl rfl zkk7 ?_
    cases H
    exact zA_ret rfl rfl
  · refine zA_brT' (c := x22 = 0) rfl rfl rfl c24 ?_
    refine zA_tr (L := [none, some (zI x22)]) rfl rfl ?_
    refine zA_ldn rfl rfl rfl ?_
    refine zA_push rfl rfl zkk3 ?_
    rcases zite_e H with ⟨c25, H⟩ | ⟨c25, H⟩
    · refine zA_brT (c := (3 : Int32) < x22) rfl rfl rfl c25 ?_
      refine zA_tr (L := [none, none]) rfl rfl ?_
      refine zA_push rfl rfl zkk23 ?_
      cases H
      exact zA_ret rfl rfl
    · refine zA_brF (c := (3 : Int32) < x22) rfl rfl rfl c25 ?_
      refine zA_push rfl rfl zkk5 ?_
      refine zA_go rfl rfl ?_
      refine zA_tr (L := [none, none]) rfl rfl ?_
      cases H
      exact zA_ret rfl rfl
theorem zmE135 (x0 : Int32) : zpad (zPr.2.1 135).1 (zil [zI x0]) = [some (zI x0), none] := by
  simp only [zil_A, zil_I, zil_F, zil_D, zil_N]
  rfl
-- 89: ReleaseHouse.seenBy(II)LReleaseHouse$Artefact;
def zm89 (x0 : zq) (x1 : Int32) (x2 : Int32) (h : zH) : zRs zq :=
  zob 11 x0 fun p21 i22 =>
  zra (zr h p21 i22 6) x1 h fun v32 =>
  zob 8 v32 fun p34 i35 =>
  zra (zr h p34 i35 2) x2 h fun v45 =>
  if v45 = none then
    zra (zr h p21 i22 6) x1 h fun v55 =>
    zob 8 v55 fun p57 i58 =>
    zb (zm135 x2 h) fun x62 h61 =>
    zra (zr h p57 i58 0) x62 h61 fun v70 =>
    zlet ((((37 : Int32) * x2) + ((11 : Int32) * x1)) - (((37 : Int32) * x2) + ((11 : Int32) * x1)) / (100 : Int32) * (100 : Int32)) fun x73 =>
    zob 9 v70 fun p75 i76 =>
    if (zi h61 p75 i76 2) ≤ x73 then
      some (.inl (zr h61 p75 i76 0), h61)
    else
      some (.inl (zr h61 p75 i76 1), h61)
  else
    some (.inl v45, h)
theorem zmS89 {x0 : zq} {x1 : Int32} {x2 : Int32} {h : zH} {r : zq ⊕ Nat} {h' : zH} (H : zm89 x0 x1 x2 h = some (r, h')) : zAt 89 0 [some (zrv x0), some (zI x1), some (zI x2), none, none, none] [] h (zoA r) h' := by
  unfold zm89 at H
  refine zA_aldn rfl rfl rfl ?_
  obtain ⟨p21, i22, e23, c24, H⟩ := zob_e H
  refine zA_gf3 rfl rfl e23 c24 ?_
  refine zA_ldn rfl rfl rfl ?_
  obtain ⟨p25, i26, j27, v32, e28, c29, c30, e31, e33, H⟩ := zra_e H
  refine zA_aal rfl rfl e28 c29 c30 e31 e33 ?_
  obtain ⟨p34, i35, e36, c37, H⟩ := zob_e H
  refine zA_gf3 rfl rfl e36 c37 ?_
  refine zA_ldn rfl rfl rfl ?_
  obtain ⟨p38, i39, j40, v45, e41, c42, c43, e44, e46, H⟩ := zra_e H
  refine zA_aal rfl rfl e41 c42 c43 e44 e46 ?_
  refine zA_astn2 rfl rfl rfl (zset1 (L' := [some (zrv x0), some (zI x1), some (zI x2), some (zrv v45), none, none]) (zcat_rv _) rfl (zpcV rfl rfl)) ?_
  refine zA_aldn rfl rfl rfl ?_
  rcases zite_e H with ⟨c47, H⟩ | ⟨c47, H⟩
  · refine zA_brT (c := v45 = none) rfl rfl zIf_null c47 ?_
    refine zA_tr (L := [some (zrv x0), some (zI x1), some (zI x2), none, none, none]) rfl rfl ?_
    refine zA_aldn rfl rfl rfl ?_
    refine zA_gf3 rfl rfl e23 c24 ?_
    refine zA_ldn rfl rfl rfl ?_
    obtain ⟨p48, i49, j50, v55, e51, c52, c53, e54, e56, H⟩ := zra_e H
    refine zA_aal rfl rfl e51 c52 c53 e54 e56 ?_
    obtain ⟨p57, i58, e59, c60, H⟩ := zob_e H
    refine zA_gf3 rfl rfl e59 c60 ?_
    refine zA_ldn rfl rfl rfl ?_
    rcases zb_e H with ⟨x62, h61, C, H⟩ | ⟨E, h61, C, H⟩
    · refine zA_callV (as := [zI x2]) (st' := [zrv (zr h p57 i58 0)]) rfl rfl rfl rfl rfl (zmE135 _) rfl (zmS135 C) ?_
      obtain ⟨p63, i64, j65, v70, e66, c67, c68, e69, e71, H⟩ := zra_e H
      refine zA_aal rfl rfl e66 c67 c68 e69 e71 ?_
      refine zA_ast2 rfl rfl rfl (zset1 (L' := [some (zrv x0), some (zI x1), some (zI x2), none, some (zrv v70), none]) (zcat_rv _) rfl (zpcN rfl)) ?_
      refine zA_push rfl rfl zkk47 ?_
      refine zA_ldn rfl rfl rfl ?_
      refine zA_st (st' := [zI ((37 : Int32) * x2)]) rfl rfl rfl rfl ?_
      refine zA_push rfl rfl zkk38 ?_
      refine zA_ldn rfl rfl rfl ?_
      refine zA_st (st' := [zI ((11 : Int32) * x1), zI ((37 : Int32) * x2)]) rfl rfl rfl rfl ?_
      refine zA_st (st' := [zI (((37 : Int32) * x2) + ((11 : Int32) * x1))]) rfl rfl rfl rfl ?_
      refine zA_push rfl rfl zkk29 ?_
      refine zA_rem rfl rfl (by decide) ?_
      obtain ⟨x73, e74, H⟩ := zlet_e H
      refine zA_ist2 rfl rfl e74 (zset1 (L' := [some (zrv x0), some (zI x1), some (zI x2), none, some (zrv v70), some (zI x73)]) rfl rfl (zpcV rfl (zcat_rv _))) ?_
      refine zA_ld rfl rfl rfl ?_
      refine zA_ald rfl rfl rfl ?_
      obtain ⟨p75, i76, e77, c78, H⟩ := zob_e H
      refine zA_gf0 rfl rfl (Or.inl rfl) e77 c78 ?_
      rcases zite_e H with ⟨c79, H⟩ | ⟨c79, H⟩
      · refine zA_brT (c := (zi h61 p75 i76 2) ≤ x73) rfl rfl rfl c79 ?_
        refine zA_tr (L := [none, none, none, none, some (zrv v70), none]) rfl rfl ?_
        refine zA_ald rfl rfl rfl ?_
        refine zA_gf3 rfl rfl e77 c78 ?_
        refine zA_tr (L := [none, none, none, none, none, none]) rfl rfl ?_
        cases H
        exact zA_ret rfl (zret_A _)
      · refine zA_brF (c := (zi h61 p75 i76 2) ≤ x73) rfl rfl rfl c79 ?_
        refine zA_ald rfl rfl rfl ?_
        refine zA_gf3 rfl rfl e77 c78 ?_
        refine zA_go rfl rfl ?_
        refine zA_tr (L := [none, none, none, none, none, none]) rfl rfl ?_
        cases H
        exact zA_ret rfl (zret_A _)
    · cases H
      exact zA_callX (as := [zI x2]) (st' := [zrv (zr h p57 i58 0)]) rfl rfl rfl rfl (zmE135 _) rfl rfl rfl (zmS135 C)
  · refine zA_brF (c := v45 = none) rfl rfl zIf_null c47 ?_
    refine zA_aldn rfl rfl rfl ?_
    cases H
    exact zA_ret rfl (zret_A _)
theorem zmE89 (x0 : zq) (x1 : Int32) (x2 : Int32) : zpad (zPr.2.1 89).1 (zil [zrv x0, zI x1, zI x2]) = [some (zrv x0), some (zI x1), some (zI x2), none, none, none] := by
  simp only [zil_A, zil_I, zil_F, zil_D, zil_N]
  rfl
-- 88: ReleaseHouse.sees(II)I
def zm88 (x0 : zq) (x1 : Int32) (x2 : Int32) (h : zH) : zRs Int32 :=
  zb (zm131 x1 (0 : Int32) (3 : Int32) h) fun _ h21 =>
  zb (zm131 x2 (0 : Int32) (199 : Int32) h21) fun _ h22 =>
  zob 11 x0 fun p23 i24 =>
  zb (zm89 x0 x1 x2 h22) fun x28 h27 =>
  zb (zm134 x28 h27) fun x30 h29 =>
  some (.inl x30, h29)
theorem zmS88 {x0 : zq} {x1 : Int32} {x2 : Int32} {h : zH} {r : Int32 ⊕ Nat} {h' : zH} (H : zm88 x0 x1 x2 h = some (r, h')) : zAt 88 0 [some (zrv x0), some (zI x1), some (zI x2)] [] h (zoI r) h' := by
  unfold zm88 at H
  refine zA_ldn rfl rfl rfl ?_
  refine zA_push rfl rfl zkk7 ?_
  refine zA_push rfl rfl zkk3 ?_
  rcases zb_e H with ⟨u32, h21, C, H⟩ | ⟨E, h21, C, H⟩
  · refine zA_callU (as := [zI x1, zI (0 : Int32), zI (3 : Int32)]) (st' := []) rfl rfl rfl rfl rfl (zmE131 _ _ _) rfl (zmS131 C) ?_
    refine zA_ldn rfl rfl rfl ?_
    refine zA_push rfl rfl zkk7 ?_
    refine zA_push rfl rfl zkk48 ?_
    rcases zb_e H with ⟨u31, h22, C, H⟩ | ⟨E, h22, C, H⟩
    · refine zA_callU (as := [zI x2, zI (0 : Int32), zI (199 : Int32)]) (st' := []) rfl rfl rfl rfl rfl (zmE131 _ _ _) rfl (zmS131 C) ?_
      refine zA_aldn rfl rfl rfl ?_
      refine zA_ldn rfl rfl rfl ?_
      refine zA_ldn rfl rfl rfl ?_
      obtain ⟨p23, i24, e25, c26, H⟩ := zob_e H
      rcases zb_e H with ⟨x28, h27, C, H⟩ | ⟨E, h27, C, H⟩
      · refine zA_callV (as := [zrv x0, zI x1, zI x2]) (st' := []) rfl rfl rfl (zrcv_Q e25 c26) rfl (zmE89 _ _ _) rfl (zmS89 C) ?_
        rcases zb_e H with ⟨x30, h29, C, H⟩ | ⟨E, h29, C, H⟩
        · refine zA_callV (as := [zrv x28]) (st' := []) rfl rfl rfl rfl rfl (zmE134 _) rfl (zmS134 C) ?_
          cases H
          exact zA_ret rfl rfl
        · cases H
          exact zA_callX (as := [zrv x28]) (st' := []) rfl rfl rfl rfl (zmE134 _) rfl rfl rfl (zmS134 C)
      · cases H
        exact zA_callX (as := [zrv x0, zI x1, zI x2]) (st' := []) rfl rfl (zrcv_Q e25 c26) rfl (zmE89 _ _ _) rfl rfl rfl (zmS89 C)
    · cases H
      exact zA_callX (as := [zI x2, zI (0 : Int32), zI (199 : Int32)]) (st' := []) rfl rfl rfl rfl (zmE131 _ _ _) rfl rfl rfl (zmS131 C)
  · cases H
    exact zA_callX (as := [zI x1, zI (0 : Int32), zI (3 : Int32)]) (st' := []) rfl rfl rfl rfl (zmE131 _ _ _) rfl rfl rfl (zmS131 C)
theorem zmE88 (x0 : zq) (x1 : Int32) (x2 : Int32) : zpad (zPr.2.1 88).1 (zil [zrv x0, zI x1, zI x2]) = [some (zrv x0), some (zI x1), some (zI x2)] := by
  simp only [zil_A, zil_I, zil_F, zil_D, zil_N]
  rfl
-- 259: ReleaseHouseLaw.sees(LReleaseHouse;II[J)I
def zm259 (x0 : zq) (x1 : Int32) (x2 : Int32) (x3 : zq) (h : zH) : zRs Int32 :=
  zob 11 x0 fun p21 i22 =>
  zbH [(0, 8, 0, 1)] 5 (zm88 x0 x1 x2 h) fun x26 h25 =>
  zar 3 x3 (0 : Int32) h25 fun p27 i28 j29 =>
  zlet (zsl h25 p27 i28 j29 (x26.toInt64)) fun h34 =>
  some (.inl (0 : Int32), h34)
theorem zmS259 {x0 : zq} {x1 : Int32} {x2 : Int32} {x3 : zq} {h : zH} {r : Int32 ⊕ Nat} {h' : zH} (H : zm259 x0 x1 x2 x3 h = some (r, h')) : zAt 259 0 [some (zrv x0), some (zI x1), some (zI x2), some (zrv x3), none] [] h (zoI r) h' := by
  unfold zm259 at H
  refine zA_aldn rfl rfl rfl ?_
  refine zA_push rfl rfl zkk7 ?_
  refine zA_aldn rfl rfl rfl ?_
  refine zA_ldn rfl rfl rfl ?_
  refine zA_ldn rfl rfl rfl ?_
  obtain ⟨p21, i22, e23, c24, H⟩ := zob_e H
  rcases zbH_e H with ⟨x26, h25, C, H⟩ | ⟨E, h25, c36, C, hc, H⟩
  · refine zA_callV (as := [zrv x0, zI x1, zI x2]) (st' := [zI (0 : Int32), zrv x3]) rfl rfl rfl (zrcv_Q e23 c24) rfl (zmE88 _ _ _) rfl (zmS88 C) ?_
    refine zA_st (st' := [zJ (x26.toInt64), zI (0 : Int32), zrv x3]) rfl rfl rfl rfl ?_
    obtain ⟨p27, i28, j29, e30, c31, c32, e33, H⟩ := zar_e H
    obtain ⟨h34, e35, H⟩ := zlet_e H
    refine zA_las rfl rfl e30 c31 c32 e33 e35 ?_
    refine zA_go rfl rfl ?_
    refine zA_tr (L := [none, none, none, none, none]) rfl rfl ?_
    refine zA_push rfl rfl zkk7 ?_
    cases H
    exact zA_ret rfl rfl
  · cases H
    exact zA_callH (as := [zrv x0, zI x1, zI x2]) (st' := [zI (0 : Int32), zrv x3]) rfl rfl (zrcv_Q e23 c24) rfl (zmE88 _ _ _) rfl rfl rfl (List.cons_ne_nil _ _) hc (zmS88 C)
theorem zmE259 (x0 : zq) (x1 : Int32) (x2 : Int32) (x3 : zq) : zpad (zPr.2.1 259).1 (zil [zrv x0, zI x1, zI x2, zrv x3]) = [some (zrv x0), some (zI x1), some (zI x2), some (zrv x3), none] := by
  simp only [zil_A, zil_I, zil_F, zil_D, zil_N]
  rfl
def zm196_12 (x0 : zq) (s0 : zq) (s1 : Int32) (h : zH) : zRs Int32 :=
  zob 12 s0 fun p21 i22 =>
  zlet (zsi h p21 i22 0 s1) fun h25 =>
  zob 12 x0 fun p27 i28 =>
  if (zi h25 p27 i28 0) = 0 then
    some (.inl (1 : Int32), h25)
  else
    some (.inl (0 : Int32), h25)
theorem zmS196_12 : ∀ (x0 : zq) (s0 : zq) (s1 : Int32) (h : zH) (r : Int32 ⊕ Nat) (h' : zH), zm196_12 x0 s0 s1 h = some (r, h') → zAt 196 12 [some (zrv x0), none, none] [zI s1, zrv s0] h (zoI r) h' := by
  intro x0 s0 s1 h r h' H
  unfold zm196_12 at H
  obtain ⟨p21, i22, e23, c24, H⟩ := zob_e H
  obtain ⟨h25, e26, H⟩ := zlet_e H
  refine zA_pf0 rfl rfl e23 c24 e26 ?_
  refine zA_aldn rfl rfl rfl ?_
  obtain ⟨p27, i28, e29, c30, H⟩ := zob_e H
  refine zA_gf0 rfl rfl (Or.inl rfl) e29 c30 ?_
  rcases zite_e H with ⟨c31, H⟩ | ⟨c31, H⟩
  · refine zA_brF' (c := (zi h25 p27 i28 0) = 0) rfl rfl rfl c31 ?_
    refine zA_push rfl rfl zkk5 ?_
    refine zA_go rfl rfl ?_
    refine zA_tr (L := [none, none, none]) rfl rfl ?_
    cases H
    exact zA_ret rfl (zret_Z (by decide))
  · refine zA_brT' (c := (zi h25 p27 i28 0) = 0) rfl rfl rfl c31 ?_
    refine zA_tr (L := [none, none, none]) rfl rfl ?_
    refine zA_push rfl rfl zkk7 ?_
    cases H
    exact zA_ret rfl (zret_Z (by decide))
-- 196: ReleaseHouseModel.isCustomer(II)Z
def zm196 (x0 : zq) (x1 : Int32) (x2 : Int32) (h : zH) : zRs Int32 :=
  zb (zm140 x1 h) fun x22 h21 =>
  if x22 = 0 then
    zm196_12 x0 x0 (1 : Int32) h21
  else
    zb (zm139 x2 (0 : Int32) (199 : Int32) h21) fun x25 h24 =>
    if x25 = 0 then
      zm196_12 x0 x0 (1 : Int32) h24
    else
      zm196_12 x0 x0 (0 : Int32) h24
theorem zmS196 {x0 : zq} {x1 : Int32} {x2 : Int32} {h : zH} {r : Int32 ⊕ Nat} {h' : zH} (H : zm196 x0 x1 x2 h = some (r, h')) : zAt 196 0 [some (zrv x0), some (zI x1), some (zI x2)] [] h (zoI r) h' := by
  unfold zm196 at H
  refine zA_aldn rfl rfl rfl ?_
  refine zA_ldn rfl rfl rfl ?_
  rcases zb_e H with ⟨x22, h21, C, H⟩ | ⟨E, h21, C, H⟩
  · refine zA_callV (as := [zI x1]) (st' := [zrv x0]) rfl rfl rfl rfl rfl (zmE140 _) rfl (zmS140 C) ?_
    rcases zite_e H with ⟨c23, H⟩ | ⟨c23, H⟩
    · refine zA_brT (c := x22 = 0) rfl rfl rfl c23 ?_
      refine zA_tr (L := [some (zrv x0), none, none]) rfl rfl ?_
      refine zA_push rfl rfl zkk5 ?_
      exact zA_tr (L := [some (zrv x0), none, none]) rfl rfl (zmS196_12 _ _ _ _ _ _ H)
    · refine zA_brF (c := x22 = 0) rfl rfl rfl c23 ?_
      refine zA_ldn rfl rfl rfl ?_
      refine zA_push rfl rfl zkk7 ?_
      refine zA_push rfl rfl zkk48 ?_
      rcases zb_e H with ⟨x25, h24, C, H⟩ | ⟨E, h24, C, H⟩
      · refine zA_callV (as := [zI x2, zI (0 : Int32), zI (199 : Int32)]) (st' := [zrv x0]) rfl rfl rfl rfl rfl (zmE139 _ _ _) rfl (zmS139 C) ?_
        rcases zite_e H with ⟨c26, H⟩ | ⟨c26, H⟩
        · refine zA_brT (c := x25 = 0) rfl rfl rfl c26 ?_
          refine zA_tr (L := [some (zrv x0), none, none]) rfl rfl ?_
          refine zA_push rfl rfl zkk5 ?_
          exact zA_tr (L := [some (zrv x0), none, none]) rfl rfl (zmS196_12 _ _ _ _ _ _ H)
        · refine zA_brF (c := x25 = 0) rfl rfl rfl c26 ?_
          refine zA_push rfl rfl zkk7 ?_
          refine zA_go rfl rfl ?_
          exact zA_tr (L := [some (zrv x0), none, none]) rfl rfl (zmS196_12 _ _ _ _ _ _ H)
      · cases H
        exact zA_callX (as := [zI x2, zI (0 : Int32), zI (199 : Int32)]) (st' := [zrv x0]) rfl rfl rfl rfl (zmE139 _ _ _) rfl rfl rfl (zmS139 C)
  · cases H
    exact zA_callX (as := [zI x1]) (st' := [zrv x0]) rfl rfl rfl rfl (zmE140 _) rfl rfl rfl (zmS140 C)
theorem zmE196 (x0 : zq) (x1 : Int32) (x2 : Int32) : zpad (zPr.2.1 196).1 (zil [zrv x0, zI x1, zI x2]) = [some (zrv x0), some (zI x1), some (zI x2)] := by
  simp only [zil_A, zil_I, zil_F, zil_D, zil_N]
  rfl
def zm195_48 (x0 : zq) (x4 : Int32) (h : zH) : zRs Int32 :=
  zob 12 x0 fun p21 i22 =>
  zri (zr h p21 i22 12) x4 h fun v32 =>
  some (.inl v32, h)
theorem zmS195_48 : ∀ (x0 : zq) (x4 : Int32) (h : zH) (r : Int32 ⊕ Nat) (h' : zH), zm195_48 x0 x4 h = some (r, h') → zAt 195 48 [some (zrv x0), none, none, none, some (zI x4), none] [] h (zoI r) h' := by
  intro x0 x4 h r h' H
  unfold zm195_48 at H
  refine zA_aldn rfl rfl rfl ?_
  obtain ⟨p21, i22, e23, c24, H⟩ := zob_e H
  refine zA_gf3 rfl rfl e23 c24 ?_
  refine zA_ld rfl rfl rfl ?_
  obtain ⟨p25, i26, j27, v32, e28, c29, c30, e31, e33, H⟩ := zri_e H
  refine zA_ial rfl rfl e28 c29 c30 e31 e33 ?_
  refine zA_tr (L := [none, none, none, none, none, none]) rfl rfl ?_
  cases H
  exact zA_ret rfl rfl
-- 195: ReleaseHouseModel.seenBy(II)I
def zm195 (x0 : zq) (x1 : Int32) (x2 : Int32) (h : zH) : zRs Int32 :=
  zob 12 x0 fun p21 i22 =>
  zri (zr h p21 i22 18) (((200 : Int32) * x1) + x2) h fun v32 =>
  zb (zm144 x2 h) fun x35 h34 =>
  zlet (((3 : Int32) * x1) + x35) fun x36 =>
  zlet ((((37 : Int32) * x2) + ((11 : Int32) * x1)) - (((37 : Int32) * x2) + ((11 : Int32) * x1)) / (100 : Int32) * (100 : Int32)) fun x39 =>
  if v32 = (-1 : Int32) then
    zri (zr h34 p21 i22 13) x36 h34 fun v49 =>
    if v49 = (-1 : Int32) then
      zm195_48 x0 x36 h34
    else
      zri (zr h34 p21 i22 14) x36 h34 fun v59 =>
      if v59 ≤ x39 then
        zm195_48 x0 x36 h34
      else
        zri (zr h34 p21 i22 13) x36 h34 fun v69 =>
        some (.inl v69, h34)
  else
    some (.inl v32, h34)
theorem zmS195 {x0 : zq} {x1 : Int32} {x2 : Int32} {h : zH} {r : Int32 ⊕ Nat} {h' : zH} (H : zm195 x0 x1 x2 h = some (r, h')) : zAt 195 0 [some (zrv x0), some (zI x1), some (zI x2), none, none, none] [] h (zoI r) h' := by
  unfold zm195 at H
  refine zA_aldn rfl rfl rfl ?_
  obtain ⟨p21, i22, e23, c24, H⟩ := zob_e H
  refine zA_gf3 rfl rfl e23 c24 ?_
  refine zA_push rfl rfl zkk4 ?_
  refine zA_ldn rfl rfl rfl ?_
  refine zA_st (st' := [zI ((200 : Int32) * x1), zrv (zr h p21 i22 18)]) rfl rfl rfl rfl ?_
  refine zA_ldn rfl rfl rfl ?_
  refine zA_st (st' := [zI (((200 : Int32) * x1) + x2), zrv (zr h p21 i22 18)]) rfl rfl rfl rfl ?_
  obtain ⟨p25, i26, j27, v32, e28, c29, c30, e31, e33, H⟩ := zri_e H
  refine zA_ial rfl rfl e28 c29 c30 e31 e33 ?_
  refine zA_istn2 rfl rfl rfl (zset1 (L' := [some (zrv x0), some (zI x1), some (zI x2), some (zI v32), none, none]) rfl rfl (zpcV rfl rfl)) ?_
  refine zA_push rfl rfl zkk3 ?_
  refine zA_ldn rfl rfl rfl ?_
  refine zA_st (st' := [zI ((3 : Int32) * x1)]) rfl rfl rfl rfl ?_
  refine zA_ldn rfl rfl rfl ?_
  rcases zb_e H with ⟨x35, h34, C, H⟩ | ⟨E, h34, C, H⟩
  · refine zA_callV (as := [zI x2]) (st' := [zI ((3 : Int32) * x1)]) rfl rfl rfl rfl rfl (zmE144 _) rfl (zmS144 C) ?_
    refine zA_st (st' := [zI (((3 : Int32) * x1) + x35)]) rfl rfl rfl rfl ?_
    obtain ⟨x36, e37, H⟩ := zlet_e H
    refine zA_ist2 rfl rfl e37 (zset1 (L' := [some (zrv x0), some (zI x1), some (zI x2), some (zI v32), some (zI x36), none]) rfl rfl (zpcV rfl rfl)) ?_
    refine zA_push rfl rfl zkk47 ?_
    refine zA_ldn rfl rfl rfl ?_
    refine zA_st (st' := [zI ((37 : Int32) * x2)]) rfl rfl rfl rfl ?_
    refine zA_push rfl rfl zkk38 ?_
    refine zA_ldn rfl rfl rfl ?_
    refine zA_st (st' := [zI ((11 : Int32) * x1), zI ((37 : Int32) * x2)]) rfl rfl rfl rfl ?_
    refine zA_st (st' := [zI (((37 : Int32) * x2) + ((11 : Int32) * x1))]) rfl rfl rfl rfl ?_
    refine zA_push rfl rfl zkk29 ?_
    refine zA_rem rfl rfl (by decide) ?_
    obtain ⟨x39, e40, H⟩ := zlet_e H
    refine zA_ist2 rfl rfl e40 (zset1 (L' := [some (zrv x0), some (zI x1), some (zI x2), some (zI v32), some (zI x36), some (zI x39)]) rfl rfl (zpcV rfl rfl)) ?_
    refine zA_ldn rfl rfl rfl ?_
    refine zA_push rfl rfl zkk6 ?_
    rcases zite_e H with ⟨c41, H⟩ | ⟨c41, H⟩
    · refine zA_brT (c := v32 = (-1 : Int32)) rfl rfl rfl c41 ?_
      refine zA_tr (L := [some (zrv x0), none, none, none, some (zI x36), some (zI x39)]) rfl rfl ?_
      refine zA_aldn rfl rfl rfl ?_
      refine zA_gf3 rfl rfl e23 c24 ?_
      refine zA_ld rfl rfl rfl ?_
      obtain ⟨p42, i43, j44, v49, e45, c46, c47, e48, e50, H⟩ := zri_e H
      refine zA_ial rfl rfl e45 c46 c47 e48 e50 ?_
      refine zA_push rfl rfl zkk6 ?_
      rcases zite_e H with ⟨c51, H⟩ | ⟨c51, H⟩
      · refine zA_brT (c := v49 = (-1 : Int32)) rfl rfl rfl c51 ?_
        exact zA_tr (L := [some (zrv x0), none, none, none, some (zI x36), none]) rfl rfl (zmS195_48 _ _ _ _ _ H)
      · refine zA_brF (c := v49 = (-1 : Int32)) rfl rfl rfl c51 ?_
        refine zA_ld rfl rfl rfl ?_
        refine zA_aldn rfl rfl rfl ?_
        refine zA_gf3 rfl rfl e23 c24 ?_
        refine zA_ld rfl rfl rfl ?_
        obtain ⟨p52, i53, j54, v59, e55, c56, c57, e58, e60, H⟩ := zri_e H
        refine zA_ial rfl rfl e55 c56 c57 e58 e60 ?_
        rcases zite_e H with ⟨c61, H⟩ | ⟨c61, H⟩
        · refine zA_brT (c := v59 ≤ x39) rfl rfl rfl c61 ?_
          exact zA_tr (L := [some (zrv x0), none, none, none, some (zI x36), none]) rfl rfl (zmS195_48 _ _ _ _ _ H)
        · refine zA_brF (c := v59 ≤ x39) rfl rfl rfl c61 ?_
          refine zA_aldn rfl rfl rfl ?_
          refine zA_gf3 rfl rfl e23 c24 ?_
          refine zA_ld rfl rfl rfl ?_
          obtain ⟨p62, i63, j64, v69, e65, c66, c67, e68, e70, H⟩ := zri_e H
          refine zA_ial rfl rfl e65 c66 c67 e68 e70 ?_
          refine zA_go rfl rfl ?_
          refine zA_tr (L := [none, none, none, none, none, none]) rfl rfl ?_
          cases H
          exact zA_ret rfl rfl
    · refine zA_brF (c := v32 = (-1 : Int32)) rfl rfl rfl c41 ?_
      refine zA_ldn rfl rfl rfl ?_
      refine zA_go rfl rfl ?_
      refine zA_tr (L := [none, none, none, none, none, none]) rfl rfl ?_
      cases H
      exact zA_ret rfl rfl
  · cases H
    exact zA_callX (as := [zI x2]) (st' := [zI ((3 : Int32) * x1)]) rfl rfl rfl rfl (zmE144 _) rfl rfl rfl (zmS144 C)
theorem zmE195 (x0 : zq) (x1 : Int32) (x2 : Int32) : zpad (zPr.2.1 195).1 (zil [zrv x0, zI x1, zI x2]) = [some (zrv x0), some (zI x1), some (zI x2), none, none, none] := by
  simp only [zil_A, zil_I, zil_F, zil_D, zil_N]
  rfl
-- 197: ReleaseHouseModel.sees(II)I
def zm197 (x0 : zq) (x1 : Int32) (x2 : Int32) (h : zH) : zRs Int32 :=
  zob 12 x0 fun p21 i22 =>
  zb (zm196 x0 x1 x2 h) fun x26 h25 =>
  if x26 = 0 then
    some (.inl (0 : Int32), h25)
  else
    zb (zm195 x0 x1 x2 h25) fun x29 h28 =>
    some (.inl x29, h28)
theorem zmS197 {x0 : zq} {x1 : Int32} {x2 : Int32} {h : zH} {r : Int32 ⊕ Nat} {h' : zH} (H : zm197 x0 x1 x2 h = some (r, h')) : zAt 197 0 [some (zrv x0), some (zI x1), some (zI x2)] [] h (zoI r) h' := by
  unfold zm197 at H
  refine zA_aldn rfl rfl rfl ?_
  refine zA_ldn rfl rfl rfl ?_
  refine zA_ldn rfl rfl rfl ?_
  obtain ⟨p21, i22, e23, c24, H⟩ := zob_e H
  rcases zb_e H with ⟨x26, h25, C, H⟩ | ⟨E, h25, C, H⟩
  · refine zA_callV (as := [zrv x0, zI x1, zI x2]) (st' := []) rfl rfl rfl (zrcv_Q e23 c24) rfl (zmE196 _ _ _) rfl (zmS196 C) ?_
    rcases zite_e H with ⟨c27, H⟩ | ⟨c27, H⟩
    · refine zA_brT (c := x26 = 0) rfl rfl rfl c27 ?_
      refine zA_tr (L := [none, none, none]) rfl rfl ?_
      refine zA_push rfl rfl zkk7 ?_
      cases H
      exact zA_ret rfl rfl
    · refine zA_brF (c := x26 = 0) rfl rfl rfl c27 ?_
      refine zA_aldn rfl rfl rfl ?_
      refine zA_ldn rfl rfl rfl ?_
      refine zA_ldn rfl rfl rfl ?_
      rcases zb_e H with ⟨x29, h28, C, H⟩ | ⟨E, h28, C, H⟩
      · refine zA_callV (as := [zrv x0, zI x1, zI x2]) (st' := []) rfl rfl rfl (zrcv_Q e23 c24) rfl (zmE195 _ _ _) rfl (zmS195 C) ?_
        refine zA_go rfl rfl ?_
        refine zA_tr (L := [none, none, none]) rfl rfl ?_
        cases H
        exact zA_ret rfl rfl
      · cases H
        exact zA_callX (as := [zrv x0, zI x1, zI x2]) (st' := []) rfl rfl (zrcv_Q e23 c24) rfl (zmE195 _ _ _) rfl rfl rfl (zmS195 C)
  · cases H
    exact zA_callX (as := [zrv x0, zI x1, zI x2]) (st' := []) rfl rfl (zrcv_Q e23 c24) rfl (zmE196 _ _ _) rfl rfl rfl (zmS196 C)
theorem zmE197 (x0 : zq) (x1 : Int32) (x2 : Int32) : zpad (zPr.2.1 197).1 (zil [zrv x0, zI x1, zI x2]) = [some (zrv x0), some (zI x1), some (zI x2)] := by
  simp only [zil_A, zil_I, zil_F, zil_D, zil_N]
  rfl
def zm90_34 (k19 : zq → Int32 → zq → Int32 → Int32 → zH → zRs Int32) (x0 : zq) (x2 : Int32) (x3 : zq) (x4 : Int32) (x5 : Int32) (h : zH) : zRs Int32 :=
  zlet (x5 + (1 : Int32)) fun x21 =>
  k19 x0 x2 x3 x4 x21 h
theorem zmS90_34 {k19 : zq → Int32 → zq → Int32 → Int32 → zH → zRs Int32} (hk19 : ∀ (x0 : zq) (x2 : Int32) (x3 : zq) (x4 : Int32) (x5 : Int32) (h : zH) (r : Int32 ⊕ Nat) (h' : zH), k19 x0 x2 x3 x4 x5 h = some (r, h') → zAt 90 19 [some (zrv x0), none, some (zI x2), some (zrv x3), some (zI x4), some (zI x5)] [] h (zoI r) h') : ∀ (x0 : zq) (x2 : Int32) (x3 : zq) (x4 : Int32) (x5 : Int32) (h : zH) (r : Int32 ⊕ Nat) (h' : zH), zm90_34 k19 x0 x2 x3 x4 x5 h = some (r, h') → zAt 90 34 [some (zrv x0), none, some (zI x2), some (zrv x3), some (zI x4), some (zI x5)] [] h (zoI r) h' := by
  intro x0 x2 x3 x4 x5 h r h' H
  unfold zm90_34 at H
  obtain ⟨x21, e22, H⟩ := zlet_e H
  refine zA_inc rfl rfl rfl (e22.trans (congrArg (_ + ·) zkk8)) (zset1 (L' := [some (zrv x0), none, some (zI x2), some (zrv x3), some (zI x4), some (zI x21)]) rfl rfl (zpcV rfl rfl)) ?_
  refine zA_go rfl rfl ?_
  exact zA_tr (L := [some (zrv x0), none, some (zI x2), some (zrv x3), some (zI x4), some (zI x21)]) rfl rfl (hk19 _ _ _ _ _ _ _ _ H)
def zm90_19 : Nat → zq → Int32 → zq → Int32 → Int32 → zH → zRs Int32
  | 0, _, _, _, _, _, _ => none
  | n + 1, x0, x2, x3, x4, x5, h =>
    if (200 : Int32) ≤ x5 then
      some (.inl x4, h)
    else
      zb (zm135 x5 h) fun x23 h22 =>
      if x23 = x2 then
        zob 0 x3 fun p25 i26 =>
        zob 11 x0 fun p29 i30 =>
        zb (zm89 x0 (zi h22 p25 i26 1) x5 h22) fun x34 h33 =>
        if x34 = x3 then
          zlet (x4 + (1 : Int32)) fun x36 =>
          zm90_34 (zm90_19 n) x0 x2 x3 x36 x5 h33
        else
          zm90_34 (zm90_19 n) x0 x2 x3 x4 x5 h33
      else
        zm90_34 (zm90_19 n) x0 x2 x3 x4 x5 h22
theorem zmS90_19 : ∀ (n : Nat) (x0 : zq) (x2 : Int32) (x3 : zq) (x4 : Int32) (x5 : Int32) (h : zH) (r : Int32 ⊕ Nat) (h' : zH), zm90_19 n x0 x2 x3 x4 x5 h = some (r, h') → zAt 90 19 [some (zrv x0), none, some (zI x2), some (zrv x3), some (zI x4), some (zI x5)] [] h (zoI r) h' := by
  intro n
  induction n with
  | zero => intro x0 x2 x3 x4 x5 h r h' H; cases H
  | succ n ih =>
    intro x0 x2 x3 x4 x5 h r h' H
    unfold zm90_19 at H
    refine zA_ld rfl rfl rfl ?_
    refine zA_push rfl rfl zkk4 ?_
    rcases zite_e H with ⟨c21, H⟩ | ⟨c21, H⟩
    · refine zA_brT (c := (200 : Int32) ≤ x5) rfl rfl rfl c21 ?_
      refine zA_tr (L := [none, none, none, none, some (zI x4), none]) rfl rfl ?_
      refine zA_ld rfl rfl rfl ?_
      cases H
      exact zA_ret rfl rfl
    · refine zA_brF (c := (200 : Int32) ≤ x5) rfl rfl rfl c21 ?_
      refine zA_ld rfl rfl rfl ?_
      rcases zb_e H with ⟨x23, h22, C, H⟩ | ⟨E, h22, C, H⟩
      · refine zA_callV (as := [zI x5]) (st' := []) rfl rfl rfl rfl rfl (zmE135 _) rfl (zmS135 C) ?_
        refine zA_ldn rfl rfl rfl ?_
        rcases zite_e H with ⟨c24, H⟩ | ⟨c24, H⟩
        · refine zA_brF' (c := x23 = x2) rfl rfl rfl c24 ?_
          refine zA_aldn rfl rfl rfl ?_
          refine zA_aldn rfl rfl rfl ?_
          obtain ⟨p25, i26, e27, c28, H⟩ := zob_e H
          refine zA_gf0 rfl rfl (Or.inl rfl) e27 c28 ?_
          refine zA_ld rfl rfl rfl ?_
          obtain ⟨p29, i30, e31, c32, H⟩ := zob_e H
          rcases zb_e H with ⟨x34, h33, C, H⟩ | ⟨E, h33, C, H⟩
          · refine zA_callV (as := [zrv x0, zI (zi h22 p25 i26 1), zI x5]) (st' := []) rfl rfl rfl (zrcv_Q e31 c32) rfl (zmE89 _ _ _) rfl (zmS89 C) ?_
            refine zA_aldn rfl rfl rfl ?_
            rcases zite_e H with ⟨c35, H⟩ | ⟨c35, H⟩
            · refine zA_brF' (c := x34 = x3) rfl rfl zIf_ane c35 ?_
              obtain ⟨x36, e37, H⟩ := zlet_e H
              refine zA_inc rfl rfl rfl (e37.trans (congrArg (_ + ·) zkk8)) (zset1 (L' := [some (zrv x0), none, some (zI x2), some (zrv x3), some (zI x36), some (zI x5)]) rfl rfl (zpcV rfl (zcat_rv _))) ?_
              exact zA_tr (L := [some (zrv x0), none, some (zI x2), some (zrv x3), some (zI x36), some (zI x5)]) rfl rfl (zmS90_34 ih _ _ _ _ _ _ _ _ H)
            · refine zA_brT' (c := x34 = x3) rfl rfl zIf_ane c35 ?_
              exact zA_tr (L := [some (zrv x0), none, some (zI x2), some (zrv x3), some (zI x4), some (zI x5)]) rfl rfl (zmS90_34 ih _ _ _ _ _ _ _ _ H)
          · cases H
            exact zA_callX (as := [zrv x0, zI (zi h22 p25 i26 1), zI x5]) (st' := []) rfl rfl (zrcv_Q e31 c32) rfl (zmE89 _ _ _) rfl rfl rfl (zmS89 C)
        · refine zA_brT' (c := x23 = x2) rfl rfl rfl c24 ?_
          exact zA_tr (L := [some (zrv x0), none, some (zI x2), some (zrv x3), some (zI x4), some (zI x5)]) rfl rfl (zmS90_34 ih _ _ _ _ _ _ _ _ H)
      · cases H
        exact zA_callX (as := [zI x5]) (st' := []) rfl rfl rfl rfl (zmE135 _) rfl rfl rfl (zmS135 C)
-- 90: ReleaseHouse.seers(II)I
def zm90 (x0 : zq) (x1 : Int32) (x2 : Int32) (h : zH) : zRs Int32 :=
  zob 11 x0 fun p21 i22 =>
  zlz (zr h p21 i22 0) h fun v30 =>
  zb (zm130 x1 v30 h) fun _ h32 =>
  zb (zm131 x2 (0 : Int32) (2 : Int32) h32) fun _ h33 =>
  zlg (zr h33 p21 i22 0) x1 h33 fun v40 =>
  zob 0 v40 fun p42 i43 =>
  zm90_19 zN0 x0 x2 v40 (0 : Int32) (0 : Int32) h33
theorem zmS90 {x0 : zq} {x1 : Int32} {x2 : Int32} {h : zH} {r : Int32 ⊕ Nat} {h' : zH} (H : zm90 x0 x1 x2 h = some (r, h')) : zAt 90 0 [some (zrv x0), some (zI x1), some (zI x2), none, none, none] [] h (zoI r) h' := by
  unfold zm90 at H
  refine zA_ldn rfl rfl rfl ?_
  refine zA_aldn rfl rfl rfl ?_
  obtain ⟨p21, i22, e23, c24, H⟩ := zob_e H
  refine zA_gf3 rfl rfl e23 c24 ?_
  obtain ⟨p25, i26, v30, e27, c28, c29, e31, H⟩ := zlz_e H
  refine zA_l2 rfl rfl rfl e27 c28 c29 e31 ?_
  rcases zb_e H with ⟨u47, h32, C, H⟩ | ⟨E, h32, C, H⟩
  · refine zA_callU (as := [zI x1, zI v30]) (st' := []) rfl rfl rfl rfl rfl (zmE130 _ _) rfl (zmS130 C) ?_
    refine zA_ldn rfl rfl rfl ?_
    refine zA_push rfl rfl zkk7 ?_
    refine zA_push rfl rfl zkk23 ?_
    rcases zb_e H with ⟨u46, h33, C, H⟩ | ⟨E, h33, C, H⟩
    · refine zA_callU (as := [zI x2, zI (0 : Int32), zI (2 : Int32)]) (st' := []) rfl rfl rfl rfl rfl (zmE131 _ _ _) rfl (zmS131 C) ?_
      refine zA_aldn rfl rfl rfl ?_
      refine zA_gf3 rfl rfl e23 c24 ?_
      refine zA_ldn rfl rfl rfl ?_
      obtain ⟨p34, i35, v40, e36, c37, c38, c39, e41, H⟩ := zlg_e H
      refine zA_l3 rfl rfl rfl e36 c37 c38 c39 e41 ?_
      obtain ⟨p42, i43, e44, c45, H⟩ := zob_e H
      refine zA_cast rfl rfl e44 c45 ?_
      refine zA_astn2 rfl rfl rfl (zset1 (L' := [some (zrv x0), some (zI x1), some (zI x2), some (zrv v40), none, none]) (zcat_rv _) rfl (zpcV rfl rfl)) ?_
      refine zA_push rfl rfl zkk7 ?_
      refine zA_ist2 rfl rfl rfl (zset1 (L' := [some (zrv x0), some (zI x1), some (zI x2), some (zrv v40), some (zI (0 : Int32)), none]) rfl rfl (zpcV rfl (zcat_rv _))) ?_
      refine zA_push rfl rfl zkk7 ?_
      refine zA_ist2 rfl rfl rfl (zset1 (L' := [some (zrv x0), some (zI x1), some (zI x2), some (zrv v40), some (zI (0 : Int32)), some (zI (0 : Int32))]) rfl rfl (zpcV rfl rfl)) ?_
      exact zA_tr (L := [some (zrv x0), none, some (zI x2), some (zrv v40), some (zI (0 : Int32)), some (zI (0 : Int32))]) rfl rfl (zmS90_19 zN0 _ _ _ _ _ _ _ _ H)
    · cases H
      exact zA_callX (as := [zI x2, zI (0 : Int32), zI (2 : Int32)]) (st' := []) rfl rfl rfl rfl (zmE131 _ _ _) rfl rfl rfl (zmS131 C)
  · cases H
    exact zA_callX (as := [zI x1, zI v30]) (st' := []) rfl rfl rfl rfl (zmE130 _ _) rfl rfl rfl (zmS130 C)
theorem zmE90 (x0 : zq) (x1 : Int32) (x2 : Int32) : zpad (zPr.2.1 90).1 (zil [zrv x0, zI x1, zI x2]) = [some (zrv x0), some (zI x1), some (zI x2), none, none, none] := by
  simp only [zil_A, zil_I, zil_F, zil_D, zil_N]
  rfl
-- 260: ReleaseHouseLaw.seers(LReleaseHouse;II[J)I
def zm260 (x0 : zq) (x1 : Int32) (x2 : Int32) (x3 : zq) (h : zH) : zRs Int32 :=
  zob 11 x0 fun p21 i22 =>
  zbH [(0, 8, 2, 1), (0, 8, 0, 2)] 5 (zm90 x0 x1 x2 h) fun x26 h25 =>
  zar 3 x3 (0 : Int32) h25 fun p27 i28 j29 =>
  zlet (zsl h25 p27 i28 j29 (x26.toInt64)) fun h34 =>
  some (.inl (0 : Int32), h34)
theorem zmS260 {x0 : zq} {x1 : Int32} {x2 : Int32} {x3 : zq} {h : zH} {r : Int32 ⊕ Nat} {h' : zH} (H : zm260 x0 x1 x2 x3 h = some (r, h')) : zAt 260 0 [some (zrv x0), some (zI x1), some (zI x2), some (zrv x3), none] [] h (zoI r) h' := by
  unfold zm260 at H
  refine zA_aldn rfl rfl rfl ?_
  refine zA_push rfl rfl zkk7 ?_
  refine zA_aldn rfl rfl rfl ?_
  refine zA_ldn rfl rfl rfl ?_
  refine zA_ldn rfl rfl rfl ?_
  obtain ⟨p21, i22, e23, c24, H⟩ := zob_e H
  rcases zbH_e H with ⟨x26, h25, C, H⟩ | ⟨E, h25, c36, C, hc, H⟩
  · refine zA_callV (as := [zrv x0, zI x1, zI x2]) (st' := [zI (0 : Int32), zrv x3]) rfl rfl rfl (zrcv_Q e23 c24) rfl (zmE90 _ _ _) rfl (zmS90 C) ?_
    refine zA_st (st' := [zJ (x26.toInt64), zI (0 : Int32), zrv x3]) rfl rfl rfl rfl ?_
    obtain ⟨p27, i28, j29, e30, c31, c32, e33, H⟩ := zar_e H
    obtain ⟨h34, e35, H⟩ := zlet_e H
    refine zA_las rfl rfl e30 c31 c32 e33 e35 ?_
    refine zA_go rfl rfl ?_
    refine zA_tr (L := [none, none, none, none, none]) rfl rfl ?_
    refine zA_push rfl rfl zkk7 ?_
    cases H
    exact zA_ret rfl rfl
  · cases H
    exact zA_callH (as := [zrv x0, zI x1, zI x2]) (st' := [zI (0 : Int32), zrv x3]) rfl rfl (zrcv_Q e23 c24) rfl (zmE90 _ _ _) rfl rfl rfl (List.cons_ne_nil _ _) hc (zmS90 C)
theorem zmE260 (x0 : zq) (x1 : Int32) (x2 : Int32) (x3 : zq) : zpad (zPr.2.1 260).1 (zil [zrv x0, zI x1, zI x2, zrv x3]) = [some (zrv x0), some (zI x1), some (zI x2), some (zrv x3), none] := by
  simp only [zil_A, zil_I, zil_F, zil_D, zil_N]
  rfl
def zm198_43 (k23 : zq → Int32 → Int32 → Int32 → Int32 → zH → zRs Int32) (x0 : zq) (x1 : Int32) (x2 : Int32) (x4 : Int32) (s0 : Int32) (s1 : Int32) (h : zH) : zRs Int32 :=
  zlet (s0 + s1) fun x21 =>
  zlet (x4 + (1 : Int32)) fun x23 =>
  k23 x0 x1 x2 x21 x23 h
theorem zmS198_43 {k23 : zq → Int32 → Int32 → Int32 → Int32 → zH → zRs Int32} (hk23 : ∀ (x0 : zq) (x1 : Int32) (x2 : Int32) (x3 : Int32) (x4 : Int32) (h : zH) (r : Int32 ⊕ Nat) (h' : zH), k23 x0 x1 x2 x3 x4 h = some (r, h') → zAt 198 23 [some (zrv x0), some (zI x1), some (zI x2), some (zI x3), some (zI x4)] [] h (zoI r) h') : ∀ (x0 : zq) (x1 : Int32) (x2 : Int32) (x4 : Int32) (s0 : Int32) (s1 : Int32) (h : zH) (r : Int32 ⊕ Nat) (h' : zH), zm198_43 k23 x0 x1 x2 x4 s0 s1 h = some (r, h') → zAt 198 43 [some (zrv x0), some (zI x1), some (zI x2), none, some (zI x4)] [zI s1, zI s0] h (zoI r) h' := by
  intro x0 x1 x2 x4 s0 s1 h r h' H
  unfold zm198_43 at H
  refine zA_st (st' := [zI (s0 + s1)]) rfl rfl rfl rfl ?_
  obtain ⟨x21, e22, H⟩ := zlet_e H
  refine zA_istn2 rfl rfl e22 (zset1 (L' := [some (zrv x0), some (zI x1), some (zI x2), some (zI x21), some (zI x4)]) rfl rfl (zpcV rfl rfl)) ?_
  obtain ⟨x23, e24, H⟩ := zlet_e H
  refine zA_inc rfl rfl rfl (e24.trans (congrArg (_ + ·) zkk8)) (zset1 (L' := [some (zrv x0), some (zI x1), some (zI x2), some (zI x21), some (zI x23)]) rfl rfl (zpcV rfl rfl)) ?_
  refine zA_go rfl rfl ?_
  exact zA_tr (L := [some (zrv x0), some (zI x1), some (zI x2), some (zI x21), some (zI x23)]) rfl rfl (hk23 _ _ _ _ _ _ _ _ H)
def zm198_23 : Nat → zq → Int32 → Int32 → Int32 → Int32 → zH → zRs Int32
  | 0, _, _, _, _, _, _ => none
  | n + 1, x0, x1, x2, x3, x4, h =>
    if (200 : Int32) ≤ x4 then
      some (.inl x3, h)
    else
      zb (zm144 x4 h) fun x23 h22 =>
      if x23 = x2 then
        zob 12 x0 fun p25 i26 =>
        zri (zr h22 p25 i26 3) x1 h22 fun v36 =>
        zb (zm195 x0 v36 x4 h22) fun x39 h38 =>
        if x39 = x1 then
          zm198_43 (zm198_23 n) x0 x1 x2 x4 x3 (1 : Int32) h38
        else
          zm198_43 (zm198_23 n) x0 x1 x2 x4 x3 (0 : Int32) h38
      else
        zm198_43 (zm198_23 n) x0 x1 x2 x4 x3 (0 : Int32) h22
theorem zmS198_23 : ∀ (n : Nat) (x0 : zq) (x1 : Int32) (x2 : Int32) (x3 : Int32) (x4 : Int32) (h : zH) (r : Int32 ⊕ Nat) (h' : zH), zm198_23 n x0 x1 x2 x3 x4 h = some (r, h') → zAt 198 23 [some (zrv x0), some (zI x1), some (zI x2), some (zI x3), some (zI x4)] [] h (zoI r) h' := by
  intro n
  induction n with
  | zero => intro x0 x1 x2 x3 x4 h r h' H; cases H
  | succ n ih =>
    intro x0 x1 x2 x3 x4 h r h' H
    unfold zm198_23 at H
    refine zA_ld rfl rfl rfl ?_
    refine zA_push rfl rfl zkk4 ?_
    rcases zite_e H with ⟨c21, H⟩ | ⟨c21, H⟩
    · refine zA_brT (c := (200 : Int32) ≤ x4) rfl rfl rfl c21 ?_
      refine zA_tr (L := [none, none, none, some (zI x3), none]) rfl rfl ?_
      refine zA_ldn rfl rfl rfl ?_
      cases H
      exact zA_ret rfl rfl
    · refine zA_brF (c := (200 : Int32) ≤ x4) rfl rfl rfl c21 ?_
      refine zA_ldn rfl rfl rfl ?_
      refine zA_ld rfl rfl rfl ?_
      rcases zb_e H with ⟨x23, h22, C, H⟩ | ⟨E, h22, C, H⟩
      · refine zA_callV (as := [zI x4]) (st' := [zI x3]) rfl rfl rfl rfl rfl (zmE144 _) rfl (zmS144 C) ?_
        refine zA_ldn rfl rfl rfl ?_
        rcases zite_e H with ⟨c24, H⟩ | ⟨c24, H⟩
        · refine zA_brF' (c := x23 = x2) rfl rfl rfl c24 ?_
          refine zA_aldn rfl rfl rfl ?_
          refine zA_aldn rfl rfl rfl ?_
          obtain ⟨p25, i26, e27, c28, H⟩ := zob_e H
          refine zA_gf3 rfl rfl e27 c28 ?_
          refine zA_ldn rfl rfl rfl ?_
          obtain ⟨p29, i30, j31, v36, e32, c33, c34, e35, e37, H⟩ := zri_e H
          refine zA_ial rfl rfl e32 c33 c34 e35 e37 ?_
          refine zA_ld rfl rfl rfl ?_
          rcases zb_e H with ⟨x39, h38, C, H⟩ | ⟨E, h38, C, H⟩
          · refine zA_callV (as := [zrv x0, zI v36, zI x4]) (st' := [zI x3]) rfl rfl rfl (zrcv_Q e27 c28) rfl (zmE195 _ _ _) rfl (zmS195 C) ?_
            refine zA_ldn rfl rfl rfl ?_
            rcases zite_e H with ⟨c40, H⟩ | ⟨c40, H⟩
            · refine zA_brF' (c := x39 = x1) rfl rfl rfl c40 ?_
              refine zA_push rfl rfl zkk5 ?_
              refine zA_go rfl rfl ?_
              exact zA_tr (L := [some (zrv x0), some (zI x1), some (zI x2), none, some (zI x4)]) rfl rfl (zmS198_43 ih _ _ _ _ _ _ _ _ _ H)
            · refine zA_brT' (c := x39 = x1) rfl rfl rfl c40 ?_
              refine zA_tr (L := [some (zrv x0), some (zI x1), some (zI x2), none, some (zI x4)]) rfl rfl ?_
              refine zA_push rfl rfl zkk7 ?_
              exact zA_tr (L := [some (zrv x0), some (zI x1), some (zI x2), none, some (zI x4)]) rfl rfl (zmS198_43 ih _ _ _ _ _ _ _ _ _ H)
          · cases H
            exact zA_callX (as := [zrv x0, zI v36, zI x4]) (st' := [zI x3]) rfl rfl (zrcv_Q e27 c28) rfl (zmE195 _ _ _) rfl rfl rfl (zmS195 C)
        · refine zA_brT' (c := x23 = x2) rfl rfl rfl c24 ?_
          refine zA_tr (L := [some (zrv x0), some (zI x1), some (zI x2), none, some (zI x4)]) rfl rfl ?_
          refine zA_push rfl rfl zkk7 ?_
          exact zA_tr (L := [some (zrv x0), some (zI x1), some (zI x2), none, some (zI x4)]) rfl rfl (zmS198_43 ih _ _ _ _ _ _ _ _ _ H)
      · cases H
        exact zA_callX (as := [zI x4]) (st' := [zI x3]) rfl rfl rfl rfl (zmE144 _) rfl rfl rfl (zmS144 C)
def zm198_13 (x0 : zq) (x1 : Int32) (x2 : Int32) (s0 : zq) (s1 : Int32) (h : zH) : zRs Int32 :=
  zob 12 s0 fun p21 i22 =>
  zlet (zsi h p21 i22 0 s1) fun h25 =>
  zob 12 x0 fun p27 i28 =>
  if (zi h25 p27 i28 0) ≤ 0 then
    zm198_23 zN0 x0 x1 x2 (0 : Int32) (0 : Int32) h25
  else
    some (.inl (0 : Int32), h25)
theorem zmS198_13 : ∀ (x0 : zq) (x1 : Int32) (x2 : Int32) (s0 : zq) (s1 : Int32) (h : zH) (r : Int32 ⊕ Nat) (h' : zH), zm198_13 x0 x1 x2 s0 s1 h = some (r, h') → zAt 198 13 [some (zrv x0), some (zI x1), some (zI x2), none, none] [zI s1, zrv s0] h (zoI r) h' := by
  intro x0 x1 x2 s0 s1 h r h' H
  unfold zm198_13 at H
  obtain ⟨p21, i22, e23, c24, H⟩ := zob_e H
  obtain ⟨h25, e26, H⟩ := zlet_e H
  refine zA_pf0 rfl rfl e23 c24 e26 ?_
  refine zA_aldn rfl rfl rfl ?_
  obtain ⟨p27, i28, e29, c30, H⟩ := zob_e H
  refine zA_gf0 rfl rfl (Or.inl rfl) e29 c30 ?_
  rcases zite_e H with ⟨c31, H⟩ | ⟨c31, H⟩
  · refine zA_brT (c := (zi h25 p27 i28 0) ≤ 0) rfl rfl rfl c31 ?_
    refine zA_push rfl rfl zkk7 ?_
    refine zA_istn2 rfl rfl rfl (zset1 (L' := [some (zrv x0), some (zI x1), some (zI x2), some (zI (0 : Int32)), none]) rfl rfl (zpcV rfl rfl)) ?_
    refine zA_push rfl rfl zkk7 ?_
    refine zA_ist2 rfl rfl rfl (zset1 (L' := [some (zrv x0), some (zI x1), some (zI x2), some (zI (0 : Int32)), some (zI (0 : Int32))]) rfl rfl (zpcV rfl rfl)) ?_
    exact zA_tr (L := [some (zrv x0), some (zI x1), some (zI x2), some (zI (0 : Int32)), some (zI (0 : Int32))]) rfl rfl (zmS198_23 zN0 _ _ _ _ _ _ _ _ H)
  · refine zA_brF (c := (zi h25 p27 i28 0) ≤ 0) rfl rfl rfl c31 ?_
    refine zA_push rfl rfl zkk7 ?_
    cases H
    exact zA_ret rfl rfl
-- 198: ReleaseHouseModel.seers(II)I
def zm198 (x0 : zq) (x1 : Int32) (x2 : Int32) (h : zH) : zRs Int32 :=
  zob 12 x0 fun p21 i22 =>
  zb (zm142 x0 x1 h) fun x26 h25 =>
  if x26 = 0 then
    zm198_13 x0 x1 x2 x0 (1 : Int32) h25
  else
    zb (zm141 x2 h25) fun x29 h28 =>
    if x29 = 0 then
      zm198_13 x0 x1 x2 x0 (2 : Int32) h28
    else
      zm198_13 x0 x1 x2 x0 (0 : Int32) h28
theorem zmS198 {x0 : zq} {x1 : Int32} {x2 : Int32} {h : zH} {r : Int32 ⊕ Nat} {h' : zH} (H : zm198 x0 x1 x2 h = some (r, h')) : zAt 198 0 [some (zrv x0), some (zI x1), some (zI x2), none, none] [] h (zoI r) h' := by
  unfold zm198 at H
  refine zA_aldn rfl rfl rfl ?_
  refine zA_aldn rfl rfl rfl ?_
  refine zA_ldn rfl rfl rfl ?_
  obtain ⟨p21, i22, e23, c24, H⟩ := zob_e H
  rcases zb_e H with ⟨x26, h25, C, H⟩ | ⟨E, h25, C, H⟩
  · refine zA_callV (as := [zrv x0, zI x1]) (st' := [zrv x0]) rfl rfl rfl (zrcv_Q e23 c24) rfl (zmE142 _ _) rfl (zmS142 C) ?_
    rcases zite_e H with ⟨c27, H⟩ | ⟨c27, H⟩
    · refine zA_brF' (c := x26 = 0) rfl rfl rfl c27 ?_
      refine zA_push rfl rfl zkk5 ?_
      refine zA_go rfl rfl ?_
      exact zA_tr (L := [some (zrv x0), some (zI x1), some (zI x2), none, none]) rfl rfl (zmS198_13 _ _ _ _ _ _ _ _ H)
    · refine zA_brT' (c := x26 = 0) rfl rfl rfl c27 ?_
      refine zA_ldn rfl rfl rfl ?_
      rcases zb_e H with ⟨x29, h28, C, H⟩ | ⟨E, h28, C, H⟩
      · refine zA_callV (as := [zI x2]) (st' := [zrv x0]) rfl rfl rfl rfl rfl (zmE141 _) rfl (zmS141 C) ?_
        rcases zite_e H with ⟨c30, H⟩ | ⟨c30, H⟩
        · refine zA_brT (c := x29 = 0) rfl rfl rfl c30 ?_
          refine zA_push rfl rfl zkk23 ?_
          exact zA_tr (L := [some (zrv x0), some (zI x1), some (zI x2), none, none]) rfl rfl (zmS198_13 _ _ _ _ _ _ _ _ H)
        · refine zA_brF (c := x29 = 0) rfl rfl rfl c30 ?_
          refine zA_push rfl rfl zkk7 ?_
          refine zA_go rfl rfl ?_
          exact zA_tr (L := [some (zrv x0), some (zI x1), some (zI x2), none, none]) rfl rfl (zmS198_13 _ _ _ _ _ _ _ _ H)
      · cases H
        exact zA_callX (as := [zI x2]) (st' := [zrv x0]) rfl rfl rfl rfl (zmE141 _) rfl rfl rfl (zmS141 C)
  · cases H
    exact zA_callX (as := [zrv x0, zI x1]) (st' := [zrv x0]) rfl rfl (zrcv_Q e23 c24) rfl (zmE142 _ _) rfl rfl rfl (zmS142 C)
theorem zmE198 (x0 : zq) (x1 : Int32) (x2 : Int32) : zpad (zPr.2.1 198).1 (zil [zrv x0, zI x1, zI x2]) = [some (zrv x0), some (zI x1), some (zI x2), none, none] := by
  simp only [zil_A, zil_I, zil_F, zil_D, zil_N]
  rfl
-- 91: ReleaseHouse.begin(II)I
def zm91 (x0 : zq) (x1 : Int32) (x2 : Int32) (h : zH) : zRs Int32 :=
  zb (zm131 x1 (0 : Int32) (3 : Int32) h) fun _ h21 =>
  zb (zm131 x2 (0 : Int32) (199 : Int32) h21) fun _ h22 =>
  zob 11 x0 fun p23 i24 =>
  zra (zr h22 p23 i24 6) x1 h22 fun v34 =>
  zob 8 v34 fun p36 i37 =>
  zlet (zr h22 p36 i37 2) fun x40 =>
  zb (zm89 x0 x1 x2 h22) fun x43 h42 =>
  zra x40 x2 h42 fun v51 =>
  if v51 = none then
    if x43 = none then
      some (.inr 1, zro h42 1 6)
    else
      if (zi h42 p23 i24 15) < (40 : Int32) then
        zas x40 x43 x2 h42 fun p56 i57 p65 i66 j58 =>
        zlet (zsr h42 p56 i57 j58 (some (p65, i66))) fun h63 =>
        zlet (zsi h63 p23 i24 15 ((zi h63 p23 i24 15) + (1 : Int32))) fun h68 =>
        zob 0 x43 fun p70 i71 =>
        zlet (zsi h68 p70 i71 10 ((zi h68 p70 i71 10) + (1 : Int32))) fun h74 =>
        zb (zm135 x2 h74) fun x77 h76 =>
        zri (zr h74 p70 i71 11) x77 h76 fun v85 =>
        zar 1 (zr h74 p70 i71 11) x77 h76 fun p87 i88 j89 =>
        zlet (zsi h76 p87 i88 j89 (v85 + (1 : Int32))) fun h94 =>
        some (.inl (zi h94 p70 i71 0), h94)
      else
        some (.inr 1, zro h42 1 6)
  else
    some (.inr 1, zro h42 1 6)
theorem zmS91 {x0 : zq} {x1 : Int32} {x2 : Int32} {h : zH} {r : Int32 ⊕ Nat} {h' : zH} (H : zm91 x0 x1 x2 h = some (r, h')) : zAt 91 0 [some (zrv x0), some (zI x1), some (zI x2), none, none] [] h (zoI r) h' := by
  unfold zm91 at H
  refine zA_ldn rfl rfl rfl ?_
  refine zA_push rfl rfl zkk7 ?_
  refine zA_push rfl rfl zkk3 ?_
  rcases zb_e H with ⟨u97, h21, C, H⟩ | ⟨E, h21, C, H⟩
  · refine zA_callU (as := [zI x1, zI (0 : Int32), zI (3 : Int32)]) (st' := []) rfl rfl rfl rfl rfl (zmE131 _ _ _) rfl (zmS131 C) ?_
    refine zA_ldn rfl rfl rfl ?_
    refine zA_push rfl rfl zkk7 ?_
    refine zA_push rfl rfl zkk48 ?_
    rcases zb_e H with ⟨u96, h22, C, H⟩ | ⟨E, h22, C, H⟩
    · refine zA_callU (as := [zI x2, zI (0 : Int32), zI (199 : Int32)]) (st' := []) rfl rfl rfl rfl rfl (zmE131 _ _ _) rfl (zmS131 C) ?_
      refine zA_aldn rfl rfl rfl ?_
      obtain ⟨p23, i24, e25, c26, H⟩ := zob_e H
      refine zA_gf3 rfl rfl e25 c26 ?_
      refine zA_ldn rfl rfl rfl ?_
      obtain ⟨p27, i28, j29, v34, e30, c31, c32, e33, e35, H⟩ := zra_e H
      refine zA_aal rfl rfl e30 c31 c32 e33 e35 ?_
      obtain ⟨p36, i37, e38, c39, H⟩ := zob_e H
      refine zA_gf3 rfl rfl e38 c39 ?_
      obtain ⟨x40, e41, H⟩ := zlet_e H
      refine zA_astn2 rfl rfl e41 (zset1 (L' := [some (zrv x0), some (zI x1), some (zI x2), some (zrv x40), none]) (zcat_rv _) rfl (zpcV rfl rfl)) ?_
      refine zA_aldn rfl rfl rfl ?_
      refine zA_ldn rfl rfl rfl ?_
      refine zA_ldn rfl rfl rfl ?_
      rcases zb_e H with ⟨x43, h42, C, H⟩ | ⟨E, h42, C, H⟩
      · refine zA_callV (as := [zrv x0, zI x1, zI x2]) (st' := []) rfl rfl rfl (zrcv_Q e25 c26) rfl (zmE89 _ _ _) rfl (zmS89 C) ?_
        refine zA_ast2 rfl rfl rfl (zset1 (L' := [some (zrv x0), some (zI x1), some (zI x2), some (zrv x40), some (zrv x43)]) (zcat_rv _) rfl (zpcV rfl (zcat_rv _))) ?_
        refine zA_aldn rfl rfl rfl ?_
        refine zA_ldn rfl rfl rfl ?_
        obtain ⟨p44, i45, j46, v51, e47, c48, c49, e50, e52, H⟩ := zra_e H
        refine zA_aal rfl rfl e47 c48 c49 e50 e52 ?_
        rcases zite_e H with ⟨c53, H⟩ | ⟨c53, H⟩
        · refine zA_brF' (c := v51 = none) rfl rfl zIf_nonnull c53 ?_
          refine zA_ald rfl rfl rfl ?_
          rcases zite_e H with ⟨c54, H⟩ | ⟨c54, H⟩
          · refine zA_brT (c := x43 = none) rfl rfl zIf_null c54 ?_
            refine zA_tr (L := [none, none, none, none, none]) rfl rfl ?_
            cases H
            exact zA_thr rfl rfl
          · refine zA_brF (c := x43 = none) rfl rfl zIf_null c54 ?_
            refine zA_aldn rfl rfl rfl ?_
            refine zA_gf0 rfl rfl (Or.inl rfl) e25 c26 ?_
            refine zA_push rfl rfl zkk49 ?_
            rcases zite_e H with ⟨c55, H⟩ | ⟨c55, H⟩
            · refine zA_brT (c := (zi h42 p23 i24 15) < (40 : Int32)) rfl rfl rfl c55 ?_
              refine zA_tr (L := [some (zrv x0), none, some (zI x2), some (zrv x40), some (zrv x43)]) rfl rfl ?_
              refine zA_aldn rfl rfl rfl ?_
              refine zA_ldn rfl rfl rfl ?_
              refine zA_ald rfl rfl rfl ?_
              obtain ⟨p56, i57, p65, i66, j58, e59, e67, c60, c61, e62, H⟩ := zas_e H
              obtain ⟨h63, e64, H⟩ := zlet_e H
              refine zA_aas rfl rfl e59 e67 c60 c61 e62 e64 ?_
              refine zA_aldn rfl rfl rfl ?_
              refine zA_dup rfl rfl (zcat_rv _) ?_
              refine zA_gf0 rfl rfl (Or.inl rfl) e25 c26 ?_
              refine zA_push rfl rfl zkk5 ?_
              refine zA_st (st' := [zI ((zi h63 p23 i24 15) + (1 : Int32)), zrv x0]) rfl rfl rfl rfl ?_
              obtain ⟨h68, e69, H⟩ := zlet_e H
              refine zA_pf0 rfl rfl e25 c26 e69 ?_
              refine zA_ald rfl rfl rfl ?_
              refine zA_dup rfl rfl (zcat_rv _) ?_
              obtain ⟨p70, i71, e72, c73, H⟩ := zob_e H
              refine zA_gf0 rfl rfl (Or.inl rfl) e72 c73 ?_
              refine zA_push rfl rfl zkk5 ?_
              refine zA_st (st' := [zI ((zi h68 p70 i71 10) + (1 : Int32)), zrv x43]) rfl rfl rfl rfl ?_
              obtain ⟨h74, e75, H⟩ := zlet_e H
              refine zA_pf0 rfl rfl e72 c73 e75 ?_
              refine zA_ald rfl rfl rfl ?_
              refine zA_gf3 rfl rfl e72 c73 ?_
              refine zA_ldn rfl rfl rfl ?_
              rcases zb_e H with ⟨x77, h76, C, H⟩ | ⟨E, h76, C, H⟩
              · refine zA_callV (as := [zI x2]) (st' := [zrv (zr h74 p70 i71 11)]) rfl rfl rfl rfl rfl (zmE135 _) rfl (zmS135 C) ?_
                refine zA_dup2 rfl rfl rfl (zcat_rv _) ?_
                obtain ⟨p78, i79, j80, v85, e81, c82, c83, e84, e86, H⟩ := zri_e H
                refine zA_ial rfl rfl e81 c82 c83 e84 e86 ?_
                refine zA_push rfl rfl zkk5 ?_
                refine zA_st (st' := [zI (v85 + (1 : Int32)), zI x77, zrv (zr h74 p70 i71 11)]) rfl rfl rfl rfl ?_
                obtain ⟨p87, i88, j89, e90, c91, c92, e93, H⟩ := zar_e H
                obtain ⟨h94, e95, H⟩ := zlet_e H
                refine zA_ias rfl rfl e90 c91 c92 e93 e95 ?_
                refine zA_ald rfl rfl rfl ?_
                refine zA_gf0 rfl rfl (Or.inl rfl) e72 c73 ?_
                cases H
                exact zA_ret rfl rfl
              · cases H
                exact zA_callX (as := [zI x2]) (st' := [zrv (zr h74 p70 i71 11)]) rfl rfl rfl rfl (zmE135 _) rfl rfl rfl (zmS135 C)
            · refine zA_brF (c := (zi h42 p23 i24 15) < (40 : Int32)) rfl rfl rfl c55 ?_
              refine zA_tr (L := [none, none, none, none, none]) rfl rfl ?_
              cases H
              exact zA_thr rfl rfl
        · refine zA_brT' (c := v51 = none) rfl rfl zIf_nonnull c53 ?_
          refine zA_tr (L := [none, none, none, none, none]) rfl rfl ?_
          cases H
          exact zA_thr rfl rfl
      · cases H
        exact zA_callX (as := [zrv x0, zI x1, zI x2]) (st' := []) rfl rfl (zrcv_Q e25 c26) rfl (zmE89 _ _ _) rfl rfl rfl (zmS89 C)
    · cases H
      exact zA_callX (as := [zI x2, zI (0 : Int32), zI (199 : Int32)]) (st' := []) rfl rfl rfl rfl (zmE131 _ _ _) rfl rfl rfl (zmS131 C)
  · cases H
    exact zA_callX (as := [zI x1, zI (0 : Int32), zI (3 : Int32)]) (st' := []) rfl rfl rfl rfl (zmE131 _ _ _) rfl rfl rfl (zmS131 C)
theorem zmE91 (x0 : zq) (x1 : Int32) (x2 : Int32) : zpad (zPr.2.1 91).1 (zil [zrv x0, zI x1, zI x2]) = [some (zrv x0), some (zI x1), some (zI x2), none, none] := by
  simp only [zil_A, zil_I, zil_F, zil_D, zil_N]
  rfl
-- 261: ReleaseHouseLaw.begin(LReleaseHouse;II[J)I
def zm261 (x0 : zq) (x1 : Int32) (x2 : Int32) (x3 : zq) (h : zH) : zRs Int32 :=
  zob 11 x0 fun p21 i22 =>
  zbH [(0, 8, 0, 1), (0, 8, 1, 2)] 5 (zm91 x0 x1 x2 h) fun x26 h25 =>
  zar 3 x3 (0 : Int32) h25 fun p27 i28 j29 =>
  zlet (zsl h25 p27 i28 j29 (x26.toInt64)) fun h34 =>
  some (.inl (0 : Int32), h34)
theorem zmS261 {x0 : zq} {x1 : Int32} {x2 : Int32} {x3 : zq} {h : zH} {r : Int32 ⊕ Nat} {h' : zH} (H : zm261 x0 x1 x2 x3 h = some (r, h')) : zAt 261 0 [some (zrv x0), some (zI x1), some (zI x2), some (zrv x3), none] [] h (zoI r) h' := by
  unfold zm261 at H
  refine zA_aldn rfl rfl rfl ?_
  refine zA_push rfl rfl zkk7 ?_
  refine zA_aldn rfl rfl rfl ?_
  refine zA_ldn rfl rfl rfl ?_
  refine zA_ldn rfl rfl rfl ?_
  obtain ⟨p21, i22, e23, c24, H⟩ := zob_e H
  rcases zbH_e H with ⟨x26, h25, C, H⟩ | ⟨E, h25, c36, C, hc, H⟩
  · refine zA_callV (as := [zrv x0, zI x1, zI x2]) (st' := [zI (0 : Int32), zrv x3]) rfl rfl rfl (zrcv_Q e23 c24) rfl (zmE91 _ _ _) rfl (zmS91 C) ?_
    refine zA_st (st' := [zJ (x26.toInt64), zI (0 : Int32), zrv x3]) rfl rfl rfl rfl ?_
    obtain ⟨p27, i28, j29, e30, c31, c32, e33, H⟩ := zar_e H
    obtain ⟨h34, e35, H⟩ := zlet_e H
    refine zA_las rfl rfl e30 c31 c32 e33 e35 ?_
    refine zA_go rfl rfl ?_
    refine zA_tr (L := [none, none, none, none, none]) rfl rfl ?_
    refine zA_push rfl rfl zkk7 ?_
    cases H
    exact zA_ret rfl rfl
  · cases H
    exact zA_callH (as := [zrv x0, zI x1, zI x2]) (st' := [zI (0 : Int32), zrv x3]) rfl rfl (zrcv_Q e23 c24) rfl (zmE91 _ _ _) rfl rfl rfl (List.cons_ne_nil _ _) hc (zmS91 C)
theorem zmE261 (x0 : zq) (x1 : Int32) (x2 : Int32) (x3 : zq) : zpad (zPr.2.1 261).1 (zil [zrv x0, zI x1, zI x2, zrv x3]) = [some (zrv x0), some (zI x1), some (zI x2), some (zrv x3), none] := by
  simp only [zil_A, zil_I, zil_F, zil_D, zil_N]
  rfl
def zm199_33 (x0 : zq) (x1 : Int32) (x2 : Int32) (x3 : Int32) (s0 : zq) (s1 : Int32) (h : zH) : zRs Int32 :=
  zob 12 s0 fun p21 i22 =>
  zlet (zsi h p21 i22 0 s1) fun h25 =>
  zob 12 x0 fun p27 i28 =>
  if (zi h25 p27 i28 0) ≤ 0 then
    zar 1 (zr h25 p27 i28 18) (((200 : Int32) * x1) + x2) h25 fun p32 i33 j34 =>
    zlet (zsi h25 p32 i33 j34 x3) fun h39 =>
    zlet (zsi h39 p27 i28 19 ((zi h39 p27 i28 19) + (1 : Int32))) fun h41 =>
    some (.inl x3, h41)
  else
    some (.inl (0 : Int32), h25)
theorem zmS199_33 : ∀ (x0 : zq) (x1 : Int32) (x2 : Int32) (x3 : Int32) (s0 : zq) (s1 : Int32) (h : zH) (r : Int32 ⊕ Nat) (h' : zH), zm199_33 x0 x1 x2 x3 s0 s1 h = some (r, h') → zAt 199 33 [some (zrv x0), some (zI x1), some (zI x2), some (zI x3)] [zI s1, zrv s0] h (zoI r) h' := by
  intro x0 x1 x2 x3 s0 s1 h r h' H
  unfold zm199_33 at H
  obtain ⟨p21, i22, e23, c24, H⟩ := zob_e H
  obtain ⟨h25, e26, H⟩ := zlet_e H
  refine zA_pf0 rfl rfl e23 c24 e26 ?_
  refine zA_aldn rfl rfl rfl ?_
  obtain ⟨p27, i28, e29, c30, H⟩ := zob_e H
  refine zA_gf0 rfl rfl (Or.inl rfl) e29 c30 ?_
  rcases zite_e H with ⟨c31, H⟩ | ⟨c31, H⟩
  · refine zA_brT (c := (zi h25 p27 i28 0) ≤ 0) rfl rfl rfl c31 ?_
    refine zA_aldn rfl rfl rfl ?_
    refine zA_gf3 rfl rfl e29 c30 ?_
    refine zA_push rfl rfl zkk4 ?_
    refine zA_ldn rfl rfl rfl ?_
    refine zA_st (st' := [zI ((200 : Int32) * x1), zrv (zr h25 p27 i28 18)]) rfl rfl rfl rfl ?_
    refine zA_ldn rfl rfl rfl ?_
    refine zA_st (st' := [zI (((200 : Int32) * x1) + x2), zrv (zr h25 p27 i28 18)]) rfl rfl rfl rfl ?_
    refine zA_ldn rfl rfl rfl ?_
    obtain ⟨p32, i33, j34, e35, c36, c37, e38, H⟩ := zar_e H
    obtain ⟨h39, e40, H⟩ := zlet_e H
    refine zA_ias rfl rfl e35 c36 c37 e38 e40 ?_
    refine zA_aldn rfl rfl rfl ?_
    refine zA_dup rfl rfl (zcat_rv _) ?_
    refine zA_gf0 rfl rfl (Or.inl rfl) e29 c30 ?_
    refine zA_push rfl rfl zkk5 ?_
    refine zA_st (st' := [zI ((zi h39 p27 i28 19) + (1 : Int32)), zrv x0]) rfl rfl rfl rfl ?_
    obtain ⟨h41, e42, H⟩ := zlet_e H
    refine zA_pf0 rfl rfl e29 c30 e42 ?_
    refine zA_ldn rfl rfl rfl ?_
    cases H
    exact zA_ret rfl rfl
  · refine zA_brF (c := (zi h25 p27 i28 0) ≤ 0) rfl rfl rfl c31 ?_
    refine zA_push rfl rfl zkk7 ?_
    cases H
    exact zA_ret rfl rfl
-- 199: ReleaseHouseModel.begin(II)I
def zm199 (x0 : zq) (x1 : Int32) (x2 : Int32) (h : zH) : zRs Int32 :=
  zob 12 x0 fun p21 i22 =>
  zb (zm196 x0 x1 x2 h) fun x26 h25 =>
  if x26 = 0 then
    some (.inl (0 : Int32), h25)
  else
    zb (zm195 x0 x1 x2 h25) fun x29 h28 =>
    zri (zr h28 p21 i22 18) (((200 : Int32) * x1) + x2) h28 fun v37 =>
    if v37 = (-1 : Int32) then
      if x29 = (-1 : Int32) then
        zm199_33 x0 x1 x2 x29 x0 (2 : Int32) h28
      else
        if (zi h28 p21 i22 19) = (40 : Int32) then
          zm199_33 x0 x1 x2 x29 x0 (2 : Int32) h28
        else
          zm199_33 x0 x1 x2 x29 x0 (0 : Int32) h28
    else
      zm199_33 x0 x1 x2 x29 x0 (2 : Int32) h28
theorem zmS199 {x0 : zq} {x1 : Int32} {x2 : Int32} {h : zH} {r : Int32 ⊕ Nat} {h' : zH} (H : zm199 x0 x1 x2 h = some (r, h')) : zAt 199 0 [some (zrv x0), some (zI x1), some (zI x2), none] [] h (zoI r) h' := by
  unfold zm199 at H
  refine zA_aldn rfl rfl rfl ?_
  refine zA_ldn rfl rfl rfl ?_
  refine zA_ldn rfl rfl rfl ?_
  obtain ⟨p21, i22, e23, c24, H⟩ := zob_e H
  rcases zb_e H with ⟨x26, h25, C, H⟩ | ⟨E, h25, C, H⟩
  · refine zA_callV (as := [zrv x0, zI x1, zI x2]) (st' := []) rfl rfl rfl (zrcv_Q e23 c24) rfl (zmE196 _ _ _) rfl (zmS196 C) ?_
    rcases zite_e H with ⟨c27, H⟩ | ⟨c27, H⟩
    · refine zA_brF' (c := x26 = 0) rfl rfl rfl c27 ?_
      refine zA_push rfl rfl zkk7 ?_
      cases H
      exact zA_ret rfl rfl
    · refine zA_brT' (c := x26 = 0) rfl rfl rfl c27 ?_
      refine zA_aldn rfl rfl rfl ?_
      refine zA_ldn rfl rfl rfl ?_
      refine zA_ldn rfl rfl rfl ?_
      rcases zb_e H with ⟨x29, h28, C, H⟩ | ⟨E, h28, C, H⟩
      · refine zA_callV (as := [zrv x0, zI x1, zI x2]) (st' := []) rfl rfl rfl (zrcv_Q e23 c24) rfl (zmE195 _ _ _) rfl (zmS195 C) ?_
        refine zA_istn2 rfl rfl rfl (zset1 (L' := [some (zrv x0), some (zI x1), some (zI x2), some (zI x29)]) rfl rfl (zpcV rfl rfl)) ?_
        refine zA_aldn rfl rfl rfl ?_
        refine zA_aldn rfl rfl rfl ?_
        refine zA_gf3 rfl rfl e23 c24 ?_
        refine zA_push rfl rfl zkk4 ?_
        refine zA_ldn rfl rfl rfl ?_
        refine zA_st (st' := [zI ((200 : Int32) * x1), zrv (zr h28 p21 i22 18), zrv x0]) rfl rfl rfl rfl ?_
        refine zA_ldn rfl rfl rfl ?_
        refine zA_st (st' := [zI (((200 : Int32) * x1) + x2), zrv (zr h28 p21 i22 18), zrv x0]) rfl rfl rfl rfl ?_
        obtain ⟨p30, i31, j32, v37, e33, c34, c35, e36, e38, H⟩ := zri_e H
        refine zA_ial rfl rfl e33 c34 c35 e36 e38 ?_
        refine zA_push rfl rfl zkk6 ?_
        rcases zite_e H with ⟨c39, H⟩ | ⟨c39, H⟩
        · refine zA_brF' (c := v37 = (-1 : Int32)) rfl rfl rfl c39 ?_
          refine zA_ldn rfl rfl rfl ?_
          refine zA_push rfl rfl zkk6 ?_
          rcases zite_e H with ⟨c40, H⟩ | ⟨c40, H⟩
          · refine zA_brT (c := x29 = (-1 : Int32)) rfl rfl rfl c40 ?_
            refine zA_push rfl rfl zkk23 ?_
            refine zA_go rfl rfl ?_
            exact zA_tr (L := [some (zrv x0), some (zI x1), some (zI x2), some (zI x29)]) rfl rfl (zmS199_33 _ _ _ _ _ _ _ _ _ H)
          · refine zA_brF (c := x29 = (-1 : Int32)) rfl rfl rfl c40 ?_
            refine zA_aldn rfl rfl rfl ?_
            refine zA_gf0 rfl rfl (Or.inl rfl) e23 c24 ?_
            refine zA_push rfl rfl zkk49 ?_
            rcases zite_e H with ⟨c41, H⟩ | ⟨c41, H⟩
            · refine zA_brF' (c := (zi h28 p21 i22 19) = (40 : Int32)) rfl rfl rfl c41 ?_
              refine zA_push rfl rfl zkk23 ?_
              refine zA_go rfl rfl ?_
              exact zA_tr (L := [some (zrv x0), some (zI x1), some (zI x2), some (zI x29)]) rfl rfl (zmS199_33 _ _ _ _ _ _ _ _ _ H)
            · refine zA_brT' (c := (zi h28 p21 i22 19) = (40 : Int32)) rfl rfl rfl c41 ?_
              refine zA_push rfl rfl zkk7 ?_
              exact zA_tr (L := [some (zrv x0), some (zI x1), some (zI x2), some (zI x29)]) rfl rfl (zmS199_33 _ _ _ _ _ _ _ _ _ H)
        · refine zA_brT' (c := v37 = (-1 : Int32)) rfl rfl rfl c39 ?_
          refine zA_push rfl rfl zkk23 ?_
          refine zA_go rfl rfl ?_
          exact zA_tr (L := [some (zrv x0), some (zI x1), some (zI x2), some (zI x29)]) rfl rfl (zmS199_33 _ _ _ _ _ _ _ _ _ H)
      · cases H
        exact zA_callX (as := [zrv x0, zI x1, zI x2]) (st' := []) rfl rfl (zrcv_Q e23 c24) rfl (zmE195 _ _ _) rfl rfl rfl (zmS195 C)
  · cases H
    exact zA_callX (as := [zrv x0, zI x1, zI x2]) (st' := []) rfl rfl (zrcv_Q e23 c24) rfl (zmE196 _ _ _) rfl rfl rfl (zmS196 C)
theorem zmE199 (x0 : zq) (x1 : Int32) (x2 : Int32) : zpad (zPr.2.1 199).1 (zil [zrv x0, zI x1, zI x2]) = [some (zrv x0), some (zI x1), some (zI x2), none] := by
  simp only [zil_A, zil_I, zil_F, zil_D, zil_N]
  rfl
-- 92: ReleaseHouse.end(II)I
def zm92 (x0 : zq) (x1 : Int32) (x2 : Int32) (h : zH) : zRs Int32 :=
  zb (zm131 x1 (0 : Int32) (3 : Int32) h) fun _ h21 =>
  zb (zm131 x2 (0 : Int32) (199 : Int32) h21) fun _ h22 =>
  zob 11 x0 fun p23 i24 =>
  zra (zr h22 p23 i24 6) x1 h22 fun v34 =>
  zob 8 v34 fun p36 i37 =>
  zlet (zr h22 p36 i37 2) fun x40 =>
  zra x40 x2 h22 fun v49 =>
  if v49 = none then
    some (.inr 1, zro h22 1 6)
  else
    zar 5 x40 x2 h22 fun p52 i53 j54 =>
    zlet (zsr h22 p52 i53 j54 none) fun h59 =>
    zlet (zsi h59 p23 i24 15 ((zi h59 p23 i24 15) - (1 : Int32))) fun h61 =>
    zob 0 v49 fun p63 i64 =>
    zlet (zsi h61 p63 i64 10 ((zi h61 p63 i64 10) - (1 : Int32))) fun h67 =>
    zb (zm135 x2 h67) fun x70 h69 =>
    zri (zr h67 p63 i64 11) x70 h69 fun v78 =>
    zar 1 (zr h67 p63 i64 11) x70 h69 fun p80 i81 j82 =>
    zlet (zsi h69 p80 i81 j82 (v78 - (1 : Int32))) fun h87 =>
    some (.inl (zi h87 p63 i64 0), h87)
theorem zmS92 {x0 : zq} {x1 : Int32} {x2 : Int32} {h : zH} {r : Int32 ⊕ Nat} {h' : zH} (H : zm92 x0 x1 x2 h = some (r, h')) : zAt 92 0 [some (zrv x0), some (zI x1), some (zI x2), none, none] [] h (zoI r) h' := by
  unfold zm92 at H
  refine zA_ldn rfl rfl rfl ?_
  refine zA_push rfl rfl zkk7 ?_
  refine zA_push rfl rfl zkk3 ?_
  rcases zb_e H with ⟨u90, h21, C, H⟩ | ⟨E, h21, C, H⟩
  · refine zA_callU (as := [zI x1, zI (0 : Int32), zI (3 : Int32)]) (st' := []) rfl rfl rfl rfl rfl (zmE131 _ _ _) rfl (zmS131 C) ?_
    refine zA_ldn rfl rfl rfl ?_
    refine zA_push rfl rfl zkk7 ?_
    refine zA_push rfl rfl zkk48 ?_
    rcases zb_e H with ⟨u89, h22, C, H⟩ | ⟨E, h22, C, H⟩
    · refine zA_callU (as := [zI x2, zI (0 : Int32), zI (199 : Int32)]) (st' := []) rfl rfl rfl rfl rfl (zmE131 _ _ _) rfl (zmS131 C) ?_
      refine zA_aldn rfl rfl rfl ?_
      obtain ⟨p23, i24, e25, c26, H⟩ := zob_e H
      refine zA_gf3 rfl rfl e25 c26 ?_
      refine zA_ldn rfl rfl rfl ?_
      obtain ⟨p27, i28, j29, v34, e30, c31, c32, e33, e35, H⟩ := zra_e H
      refine zA_aal rfl rfl e30 c31 c32 e33 e35 ?_
      obtain ⟨p36, i37, e38, c39, H⟩ := zob_e H
      refine zA_gf3 rfl rfl e38 c39 ?_
      obtain ⟨x40, e41, H⟩ := zlet_e H
      refine zA_astn2 rfl rfl e41 (zset1 (L' := [some (zrv x0), some (zI x1), some (zI x2), some (zrv x40), none]) (zcat_rv _) rfl (zpcV rfl rfl)) ?_
      refine zA_aldn rfl rfl rfl ?_
      refine zA_ldn rfl rfl rfl ?_
      obtain ⟨p42, i43, j44, v49, e45, c46, c47, e48, e50, H⟩ := zra_e H
      refine zA_aal rfl rfl e45 c46 c47 e48 e50 ?_
      refine zA_ast2 rfl rfl rfl (zset1 (L' := [some (zrv x0), some (zI x1), some (zI x2), some (zrv x40), some (zrv v49)]) (zcat_rv _) rfl (zpcV rfl (zcat_rv _))) ?_
      refine zA_ald rfl rfl rfl ?_
      rcases zite_e H with ⟨c51, H⟩ | ⟨c51, H⟩
      · refine zA_brF' (c := v49 = none) rfl rfl zIf_nonnull c51 ?_
        cases H
        exact zA_thr rfl rfl
      · refine zA_brT' (c := v49 = none) rfl rfl zIf_nonnull c51 ?_
        refine zA_tr (L := [some (zrv x0), none, some (zI x2), some (zrv x40), some (zrv v49)]) rfl rfl ?_
        refine zA_aldn rfl rfl rfl ?_
        refine zA_ldn rfl rfl rfl ?_
        refine zA_push rfl rfl zkk26 ?_
        obtain ⟨p52, i53, j54, e55, c56, c57, e58, H⟩ := zar_e H
        obtain ⟨h59, e60, H⟩ := zlet_e H
        refine zA_aasN rfl rfl e55 c56 c57 e58 e60 ?_
        refine zA_aldn rfl rfl rfl ?_
        refine zA_dup rfl rfl (zcat_rv _) ?_
        refine zA_gf0 rfl rfl (Or.inl rfl) e25 c26 ?_
        refine zA_push rfl rfl zkk5 ?_
        refine zA_st (st' := [zI ((zi h59 p23 i24 15) - (1 : Int32)), zrv x0]) rfl rfl rfl rfl ?_
        obtain ⟨h61, e62, H⟩ := zlet_e H
        refine zA_pf0 rfl rfl e25 c26 e62 ?_
        refine zA_ald rfl rfl rfl ?_
        refine zA_dup rfl rfl (zcat_rv _) ?_
        obtain ⟨p63, i64, e65, c66, H⟩ := zob_e H
        refine zA_gf0 rfl rfl (Or.inl rfl) e65 c66 ?_
        refine zA_push rfl rfl zkk5 ?_
        refine zA_st (st' := [zI ((zi h61 p63 i64 10) - (1 : Int32)), zrv v49]) rfl rfl rfl rfl ?_
        obtain ⟨h67, e68, H⟩ := zlet_e H
        refine zA_pf0 rfl rfl e65 c66 e68 ?_
        refine zA_ald rfl rfl rfl ?_
        refine zA_gf3 rfl rfl e65 c66 ?_
        refine zA_ldn rfl rfl rfl ?_
        rcases zb_e H with ⟨x70, h69, C, H⟩ | ⟨E, h69, C, H⟩
        · refine zA_callV (as := [zI x2]) (st' := [zrv (zr h67 p63 i64 11)]) rfl rfl rfl rfl rfl (zmE135 _) rfl (zmS135 C) ?_
          refine zA_dup2 rfl rfl rfl (zcat_rv _) ?_
          obtain ⟨p71, i72, j73, v78, e74, c75, c76, e77, e79, H⟩ := zri_e H
          refine zA_ial rfl rfl e74 c75 c76 e77 e79 ?_
          refine zA_push rfl rfl zkk5 ?_
          refine zA_st (st' := [zI (v78 - (1 : Int32)), zI x70, zrv (zr h67 p63 i64 11)]) rfl rfl rfl rfl ?_
          obtain ⟨p80, i81, j82, e83, c84, c85, e86, H⟩ := zar_e H
          obtain ⟨h87, e88, H⟩ := zlet_e H
          refine zA_ias rfl rfl e83 c84 c85 e86 e88 ?_
          refine zA_ald rfl rfl rfl ?_
          refine zA_gf0 rfl rfl (Or.inl rfl) e65 c66 ?_
          cases H
          exact zA_ret rfl rfl
        · cases H
          exact zA_callX (as := [zI x2]) (st' := [zrv (zr h67 p63 i64 11)]) rfl rfl rfl rfl (zmE135 _) rfl rfl rfl (zmS135 C)
    · cases H
      exact zA_callX (as := [zI x2, zI (0 : Int32), zI (199 : Int32)]) (st' := []) rfl rfl rfl rfl (zmE131 _ _ _) rfl rfl rfl (zmS131 C)
  · cases H
    exact zA_callX (as := [zI x1, zI (0 : Int32), zI (3 : Int32)]) (st' := []) rfl rfl rfl rfl (zmE131 _ _ _) rfl rfl rfl (zmS131 C)
theorem zmE92 (x0 : zq) (x1 : Int32) (x2 : Int32) : zpad (zPr.2.1 92).1 (zil [zrv x0, zI x1, zI x2]) = [some (zrv x0), some (zI x1), some (zI x2), none, none] := by
  simp only [zil_A, zil_I, zil_F, zil_D, zil_N]
  rfl
-- 262: ReleaseHouseLaw.end(LReleaseHouse;II[J)I
def zm262 (x0 : zq) (x1 : Int32) (x2 : Int32) (x3 : zq) (h : zH) : zRs Int32 :=
  zob 11 x0 fun p21 i22 =>
  zbH [(0, 8, 0, 1), (0, 8, 1, 2)] 5 (zm92 x0 x1 x2 h) fun x26 h25 =>
  zar 3 x3 (0 : Int32) h25 fun p27 i28 j29 =>
  zlet (zsl h25 p27 i28 j29 (x26.toInt64)) fun h34 =>
  some (.inl (0 : Int32), h34)
theorem zmS262 {x0 : zq} {x1 : Int32} {x2 : Int32} {x3 : zq} {h : zH} {r : Int32 ⊕ Nat} {h' : zH} (H : zm262 x0 x1 x2 x3 h = some (r, h')) : zAt 262 0 [some (zrv x0), some (zI x1), some (zI x2), some (zrv x3), none] [] h (zoI r) h' := by
  unfold zm262 at H
  refine zA_aldn rfl rfl rfl ?_
  refine zA_push rfl rfl zkk7 ?_
  refine zA_aldn rfl rfl rfl ?_
  refine zA_ldn rfl rfl rfl ?_
  refine zA_ldn rfl rfl rfl ?_
  obtain ⟨p21, i22, e23, c24, H⟩ := zob_e H
  rcases zbH_e H with ⟨x26, h25, C, H⟩ | ⟨E, h25, c36, C, hc, H⟩
  · refine zA_callV (as := [zrv x0, zI x1, zI x2]) (st' := [zI (0 : Int32), zrv x3]) rfl rfl rfl (zrcv_Q e23 c24) rfl (zmE92 _ _ _) rfl (zmS92 C) ?_
    refine zA_st (st' := [zJ (x26.toInt64), zI (0 : Int32), zrv x3]) rfl rfl rfl rfl ?_
    obtain ⟨p27, i28, j29, e30, c31, c32, e33, H⟩ := zar_e H
    obtain ⟨h34, e35, H⟩ := zlet_e H
    refine zA_las rfl rfl e30 c31 c32 e33 e35 ?_
    refine zA_go rfl rfl ?_
    refine zA_tr (L := [none, none, none, none, none]) rfl rfl ?_
    refine zA_push rfl rfl zkk7 ?_
    cases H
    exact zA_ret rfl rfl
  · cases H
    exact zA_callH (as := [zrv x0, zI x1, zI x2]) (st' := [zI (0 : Int32), zrv x3]) rfl rfl (zrcv_Q e23 c24) rfl (zmE92 _ _ _) rfl rfl rfl (List.cons_ne_nil _ _) hc (zmS92 C)
theorem zmE262 (x0 : zq) (x1 : Int32) (x2 : Int32) (x3 : zq) : zpad (zPr.2.1 262).1 (zil [zrv x0, zI x1, zI x2, zrv x3]) = [some (zrv x0), some (zI x1), some (zI x2), some (zrv x3), none] := by
  simp only [zil_A, zil_I, zil_F, zil_D, zil_N]
  rfl
def zm200_23 (x0 : zq) (x1 : Int32) (x2 : Int32) (x3 : Int32) (s0 : zq) (s1 : Int32) (h : zH) : zRs Int32 :=
  zob 12 s0 fun p21 i22 =>
  zlet (zsi h p21 i22 0 s1) fun h25 =>
  zob 12 x0 fun p27 i28 =>
  if (zi h25 p27 i28 0) ≤ 0 then
    zar 1 (zr h25 p27 i28 18) (((200 : Int32) * x1) + x2) h25 fun p32 i33 j34 =>
    zlet (zsi h25 p32 i33 j34 (-1 : Int32)) fun h39 =>
    zlet (zsi h39 p27 i28 19 ((zi h39 p27 i28 19) - (1 : Int32))) fun h41 =>
    some (.inl x3, h41)
  else
    some (.inl (0 : Int32), h25)
theorem zmS200_23 : ∀ (x0 : zq) (x1 : Int32) (x2 : Int32) (x3 : Int32) (s0 : zq) (s1 : Int32) (h : zH) (r : Int32 ⊕ Nat) (h' : zH), zm200_23 x0 x1 x2 x3 s0 s1 h = some (r, h') → zAt 200 23 [some (zrv x0), some (zI x1), some (zI x2), some (zI x3)] [zI s1, zrv s0] h (zoI r) h' := by
  intro x0 x1 x2 x3 s0 s1 h r h' H
  unfold zm200_23 at H
  obtain ⟨p21, i22, e23, c24, H⟩ := zob_e H
  obtain ⟨h25, e26, H⟩ := zlet_e H
  refine zA_pf0 rfl rfl e23 c24 e26 ?_
  refine zA_aldn rfl rfl rfl ?_
  obtain ⟨p27, i28, e29, c30, H⟩ := zob_e H
  refine zA_gf0 rfl rfl (Or.inl rfl) e29 c30 ?_
  rcases zite_e H with ⟨c31, H⟩ | ⟨c31, H⟩
  · refine zA_brT (c := (zi h25 p27 i28 0) ≤ 0) rfl rfl rfl c31 ?_
    refine zA_aldn rfl rfl rfl ?_
    refine zA_gf3 rfl rfl e29 c30 ?_
    refine zA_push rfl rfl zkk4 ?_
    refine zA_ldn rfl rfl rfl ?_
    refine zA_st (st' := [zI ((200 : Int32) * x1), zrv (zr h25 p27 i28 18)]) rfl rfl rfl rfl ?_
    refine zA_ldn rfl rfl rfl ?_
    refine zA_st (st' := [zI (((200 : Int32) * x1) + x2), zrv (zr h25 p27 i28 18)]) rfl rfl rfl rfl ?_
    refine zA_push rfl rfl zkk6 ?_
    obtain ⟨p32, i33, j34, e35, c36, c37, e38, H⟩ := zar_e H
    obtain ⟨h39, e40, H⟩ := zlet_e H
    refine zA_ias rfl rfl e35 c36 c37 e38 e40 ?_
    refine zA_aldn rfl rfl rfl ?_
    refine zA_dup rfl rfl (zcat_rv _) ?_
    refine zA_gf0 rfl rfl (Or.inl rfl) e29 c30 ?_
    refine zA_push rfl rfl zkk5 ?_
    refine zA_st (st' := [zI ((zi h39 p27 i28 19) - (1 : Int32)), zrv x0]) rfl rfl rfl rfl ?_
    obtain ⟨h41, e42, H⟩ := zlet_e H
    refine zA_pf0 rfl rfl e29 c30 e42 ?_
    refine zA_ldn rfl rfl rfl ?_
    cases H
    exact zA_ret rfl rfl
  · refine zA_brF (c := (zi h25 p27 i28 0) ≤ 0) rfl rfl rfl c31 ?_
    refine zA_push rfl rfl zkk7 ?_
    cases H
    exact zA_ret rfl rfl
-- 200: ReleaseHouseModel.end(II)I
def zm200 (x0 : zq) (x1 : Int32) (x2 : Int32) (h : zH) : zRs Int32 :=
  zob 12 x0 fun p21 i22 =>
  zb (zm196 x0 x1 x2 h) fun x26 h25 =>
  if x26 = 0 then
    some (.inl (0 : Int32), h25)
  else
    zri (zr h25 p21 i22 18) (((200 : Int32) * x1) + x2) h25 fun v35 =>
    if v35 = (-1 : Int32) then
      zm200_23 x0 x1 x2 v35 x0 (2 : Int32) h25
    else
      zm200_23 x0 x1 x2 v35 x0 (0 : Int32) h25
theorem zmS200 {x0 : zq} {x1 : Int32} {x2 : Int32} {h : zH} {r : Int32 ⊕ Nat} {h' : zH} (H : zm200 x0 x1 x2 h = some (r, h')) : zAt 200 0 [some (zrv x0), some (zI x1), some (zI x2), none] [] h (zoI r) h' := by
  unfold zm200 at H
  refine zA_aldn rfl rfl rfl ?_
  refine zA_ldn rfl rfl rfl ?_
  refine zA_ldn rfl rfl rfl ?_
  obtain ⟨p21, i22, e23, c24, H⟩ := zob_e H
  rcases zb_e H with ⟨x26, h25, C, H⟩ | ⟨E, h25, C, H⟩
  · refine zA_callV (as := [zrv x0, zI x1, zI x2]) (st' := []) rfl rfl rfl (zrcv_Q e23 c24) rfl (zmE196 _ _ _) rfl (zmS196 C) ?_
    rcases zite_e H with ⟨c27, H⟩ | ⟨c27, H⟩
    · refine zA_brF' (c := x26 = 0) rfl rfl rfl c27 ?_
      refine zA_push rfl rfl zkk7 ?_
      cases H
      exact zA_ret rfl rfl
    · refine zA_brT' (c := x26 = 0) rfl rfl rfl c27 ?_
      refine zA_aldn rfl rfl rfl ?_
      refine zA_gf3 rfl rfl e23 c24 ?_
      refine zA_push rfl rfl zkk4 ?_
      refine zA_ldn rfl rfl rfl ?_
      refine zA_st (st' := [zI ((200 : Int32) * x1), zrv (zr h25 p21 i22 18)]) rfl rfl rfl rfl ?_
      refine zA_ldn rfl rfl rfl ?_
      refine zA_st (st' := [zI (((200 : Int32) * x1) + x2), zrv (zr h25 p21 i22 18)]) rfl rfl rfl rfl ?_
      obtain ⟨p28, i29, j30, v35, e31, c32, c33, e34, e36, H⟩ := zri_e H
      refine zA_ial rfl rfl e31 c32 c33 e34 e36 ?_
      refine zA_istn2 rfl rfl rfl (zset1 (L' := [some (zrv x0), some (zI x1), some (zI x2), some (zI v35)]) rfl rfl (zpcV rfl rfl)) ?_
      refine zA_aldn rfl rfl rfl ?_
      refine zA_ldn rfl rfl rfl ?_
      refine zA_push rfl rfl zkk6 ?_
      rcases zite_e H with ⟨c37, H⟩ | ⟨c37, H⟩
      · refine zA_brF' (c := v35 = (-1 : Int32)) rfl rfl rfl c37 ?_
        refine zA_push rfl rfl zkk23 ?_
        refine zA_go rfl rfl ?_
        exact zA_tr (L := [some (zrv x0), some (zI x1), some (zI x2), some (zI v35)]) rfl rfl (zmS200_23 _ _ _ _ _ _ _ _ _ H)
      · refine zA_brT' (c := v35 = (-1 : Int32)) rfl rfl rfl c37 ?_
        refine zA_push rfl rfl zkk7 ?_
        exact zA_tr (L := [some (zrv x0), some (zI x1), some (zI x2), some (zI v35)]) rfl rfl (zmS200_23 _ _ _ _ _ _ _ _ _ H)
  · cases H
    exact zA_callX (as := [zrv x0, zI x1, zI x2]) (st' := []) rfl rfl (zrcv_Q e23 c24) rfl (zmE196 _ _ _) rfl rfl rfl (zmS196 C)
theorem zmE200 (x0 : zq) (x1 : Int32) (x2 : Int32) : zpad (zPr.2.1 200).1 (zil [zrv x0, zI x1, zI x2]) = [some (zrv x0), some (zI x1), some (zI x2), none] := by
  simp only [zil_A, zil_I, zil_F, zil_D, zil_N]
  rfl
def zm93_37 (k15 : zq → Int32 → Int32 → zH → zRs Int32) (x0 : zq) (x1 : Int32) (x4 : Int32) (h : zH) : zRs Int32 :=
  zlet (x4 + (1 : Int32)) fun x21 =>
  k15 x0 x1 x21 h
theorem zmS93_37 {k15 : zq → Int32 → Int32 → zH → zRs Int32} (hk15 : ∀ (x0 : zq) (x1 : Int32) (x4 : Int32) (h : zH) (r : Int32 ⊕ Nat) (h' : zH), k15 x0 x1 x4 h = some (r, h') → zAt 93 15 [some (zrv x0), some (zI x1), none, none, some (zI x4), none] [] h (zoI r) h') : ∀ (x0 : zq) (x1 : Int32) (x4 : Int32) (h : zH) (r : Int32 ⊕ Nat) (h' : zH), zm93_37 k15 x0 x1 x4 h = some (r, h') → zAt 93 37 [some (zrv x0), some (zI x1), none, none, some (zI x4), none] [] h (zoI r) h' := by
  intro x0 x1 x4 h r h' H
  unfold zm93_37 at H
  obtain ⟨x21, e22, H⟩ := zlet_e H
  refine zA_inc rfl rfl rfl (e22.trans (congrArg (_ + ·) zkk8)) (zset1 (L' := [some (zrv x0), some (zI x1), none, none, some (zI x21), none]) rfl rfl (zpcN rfl)) ?_
  refine zA_go rfl rfl ?_
  exact zA_tr (L := [some (zrv x0), some (zI x1), none, none, some (zI x21), none]) rfl rfl (hk15 _ _ _ _ _ _ H)
def zm93_15 : Nat → zq → Int32 → Int32 → zH → zRs Int32
  | 0, _, _, _, _ => none
  | n + 1, x0, x1, x4, h =>
    zob 11 x0 fun p21 i22 =>
    zlz (zr h p21 i22 0) h fun v30 =>
    if v30 ≤ x4 then
      some (.inl (-1 : Int32), h)
    else
      zlg (zr h p21 i22 0) x4 h fun v39 =>
      zob 0 v39 fun p41 i42 =>
      if (zi h p41 i42 1) = x1 then
        zb (zm45 x0 v39 h) fun x47 h46 =>
        if x47 = 0 then
          some (.inl (zi h46 p41 i42 0), h46)
        else
          zm93_37 (zm93_15 n) x0 x1 x4 h46
      else
        zm93_37 (zm93_15 n) x0 x1 x4 h
theorem zmS93_15 : ∀ (n : Nat) (x0 : zq) (x1 : Int32) (x4 : Int32) (h : zH) (r : Int32 ⊕ Nat) (h' : zH), zm93_15 n x0 x1 x4 h = some (r, h') → zAt 93 15 [some (zrv x0), some (zI x1), none, none, some (zI x4), none] [] h (zoI r) h' := by
  intro n
  induction n with
  | zero => intro x0 x1 x4 h r h' H; cases H
  | succ n ih =>
    intro x0 x1 x4 h r h' H
    unfold zm93_15 at H
    refine zA_ld rfl rfl rfl ?_
    refine zA_aldn rfl rfl rfl ?_
    obtain ⟨p21, i22, e23, c24, H⟩ := zob_e H
    refine zA_gf3 rfl rfl e23 c24 ?_
    obtain ⟨p25, i26, v30, e27, c28, c29, e31, H⟩ := zlz_e H
    refine zA_l2 rfl rfl rfl e27 c28 c29 e31 ?_
    rcases zite_e H with ⟨c32, H⟩ | ⟨c32, H⟩
    · refine zA_brT (c := v30 ≤ x4) rfl rfl rfl c32 ?_
      refine zA_tr (L := [none, none, none, none, none, none]) rfl rfl ?_
      refine zA_push rfl rfl zkk6 ?_
      cases H
      exact zA_ret rfl rfl
    · refine zA_brF (c := v30 ≤ x4) rfl rfl rfl c32 ?_
      refine zA_aldn rfl rfl rfl ?_
      refine zA_gf3 rfl rfl e23 c24 ?_
      refine zA_ld rfl rfl rfl ?_
      obtain ⟨p33, i34, v39, e35, c36, c37, c38, e40, H⟩ := zlg_e H
      refine zA_l3 rfl rfl rfl e35 c36 c37 c38 e40 ?_
      obtain ⟨p41, i42, e43, c44, H⟩ := zob_e H
      refine zA_cast rfl rfl e43 c44 ?_
      refine zA_ast2 rfl rfl rfl (zset1 (L' := [some (zrv x0), some (zI x1), none, none, some (zI x4), some (zrv v39)]) (zcat_rv _) rfl (zpcV rfl rfl)) ?_
      refine zA_ald rfl rfl rfl ?_
      refine zA_gf0 rfl rfl (Or.inl rfl) e43 c44 ?_
      refine zA_ldn rfl rfl rfl ?_
      rcases zite_e H with ⟨c45, H⟩ | ⟨c45, H⟩
      · refine zA_brF' (c := (zi h p41 i42 1) = x1) rfl rfl rfl c45 ?_
        refine zA_aldn rfl rfl rfl ?_
        refine zA_ald rfl rfl rfl ?_
        rcases zb_e H with ⟨x47, h46, C, H⟩ | ⟨E, h46, C, H⟩
        · refine zA_callV (as := [zrv x0, zrv v39]) (st' := []) rfl rfl rfl (zrcv_Q e23 c24) rfl (zmE45 _ _) rfl (zmS45 C) ?_
          rcases zite_e H with ⟨c48, H⟩ | ⟨c48, H⟩
          · refine zA_brF' (c := x47 = 0) rfl rfl rfl c48 ?_
            refine zA_ald rfl rfl rfl ?_
            refine zA_gf0 rfl rfl (Or.inl rfl) e43 c44 ?_
            cases H
            exact zA_ret rfl rfl
          · refine zA_brT' (c := x47 = 0) rfl rfl rfl c48 ?_
            exact zA_tr (L := [some (zrv x0), some (zI x1), none, none, some (zI x4), none]) rfl rfl (zmS93_37 ih _ _ _ _ _ _ H)
        · cases H
          exact zA_callX (as := [zrv x0, zrv v39]) (st' := []) rfl rfl (zrcv_Q e23 c24) rfl (zmE45 _ _) rfl rfl rfl (zmS45 C)
      · refine zA_brT' (c := (zi h p41 i42 1) = x1) rfl rfl rfl c45 ?_
        exact zA_tr (L := [some (zrv x0), some (zI x1), none, none, some (zI x4), none]) rfl rfl (zmS93_37 ih _ _ _ _ _ _ H)
-- 93: ReleaseHouse.wayOut(II)I
def zm93 (x0 : zq) (x1 : Int32) (x2 : Int32) (h : zH) : zRs Int32 :=
  zob 11 x0 fun p21 i22 =>
  zb (zm132 x0 x1 x2 h) fun x26 h25 =>
  zob 9 x26 fun p27 i28 =>
  zlet (zr h25 p27 i28 0) fun x31 =>
  if x31 = none then
    some (.inl (-1 : Int32), h25)
  else
    zob 0 x31 fun p34 i35 =>
    zlet ((zi h25 p34 i35 0) + (1 : Int32)) fun x38 =>
    zm93_15 zN0 x0 x1 x38 h25
theorem zmS93 {x0 : zq} {x1 : Int32} {x2 : Int32} {h : zH} {r : Int32 ⊕ Nat} {h' : zH} (H : zm93 x0 x1 x2 h = some (r, h')) : zAt 93 0 [some (zrv x0), some (zI x1), some (zI x2), none, none, none] [] h (zoI r) h' := by
  unfold zm93 at H
  refine zA_aldn rfl rfl rfl ?_
  refine zA_ldn rfl rfl rfl ?_
  refine zA_ldn rfl rfl rfl ?_
  obtain ⟨p21, i22, e23, c24, H⟩ := zob_e H
  rcases zb_e H with ⟨x26, h25, C, H⟩ | ⟨E, h25, C, H⟩
  · refine zA_callV (as := [zrv x0, zI x1, zI x2]) (st' := []) rfl rfl rfl (zrcv_Q e23 c24) rfl (zmE132 _ _ _) rfl (zmS132 C) ?_
    obtain ⟨p27, i28, e29, c30, H⟩ := zob_e H
    refine zA_gf3 rfl rfl e29 c30 ?_
    obtain ⟨x31, e32, H⟩ := zlet_e H
    refine zA_astn2 rfl rfl e32 (zset1 (L' := [some (zrv x0), some (zI x1), some (zI x2), some (zrv x31), none, none]) (zcat_rv _) rfl (zpcV rfl rfl)) ?_
    refine zA_aldn rfl rfl rfl ?_
    rcases zite_e H with ⟨c33, H⟩ | ⟨c33, H⟩
    · refine zA_brF' (c := x31 = none) rfl rfl zIf_nonnull c33 ?_
      refine zA_push rfl rfl zkk6 ?_
      cases H
      exact zA_ret rfl rfl
    · refine zA_brT' (c := x31 = none) rfl rfl zIf_nonnull c33 ?_
      refine zA_tr (L := [some (zrv x0), some (zI x1), none, some (zrv x31), none, none]) rfl rfl ?_
      refine zA_aldn rfl rfl rfl ?_
      obtain ⟨p34, i35, e36, c37, H⟩ := zob_e H
      refine zA_gf0 rfl rfl (Or.inl rfl) e36 c37 ?_
      refine zA_push rfl rfl zkk5 ?_
      refine zA_st (st' := [zI ((zi h25 p34 i35 0) + (1 : Int32))]) rfl rfl rfl rfl ?_
      obtain ⟨x38, e39, H⟩ := zlet_e H
      refine zA_ist2 rfl rfl e39 (zset1 (L' := [some (zrv x0), some (zI x1), none, some (zrv x31), some (zI x38), none]) rfl rfl (zpcV rfl (zcat_rv _))) ?_
      exact zA_tr (L := [some (zrv x0), some (zI x1), none, none, some (zI x38), none]) rfl rfl (zmS93_15 zN0 _ _ _ _ _ _ H)
  · cases H
    exact zA_callX (as := [zrv x0, zI x1, zI x2]) (st' := []) rfl rfl (zrcv_Q e23 c24) rfl (zmE132 _ _ _) rfl rfl rfl (zmS132 C)
theorem zmE93 (x0 : zq) (x1 : Int32) (x2 : Int32) : zpad (zPr.2.1 93).1 (zil [zrv x0, zI x1, zI x2]) = [some (zrv x0), some (zI x1), some (zI x2), none, none, none] := by
  simp only [zil_A, zil_I, zil_F, zil_D, zil_N]
  rfl
-- 263: ReleaseHouseLaw.wayOut(LReleaseHouse;II[J)I
def zm263 (x0 : zq) (x1 : Int32) (x2 : Int32) (x3 : zq) (h : zH) : zRs Int32 :=
  zob 11 x0 fun p21 i22 =>
  zbH [(0, 8, 0, 1)] 5 (zm93 x0 x1 x2 h) fun x26 h25 =>
  zar 3 x3 (0 : Int32) h25 fun p27 i28 j29 =>
  zlet (zsl h25 p27 i28 j29 (x26.toInt64)) fun h34 =>
  some (.inl (0 : Int32), h34)
theorem zmS263 {x0 : zq} {x1 : Int32} {x2 : Int32} {x3 : zq} {h : zH} {r : Int32 ⊕ Nat} {h' : zH} (H : zm263 x0 x1 x2 x3 h = some (r, h')) : zAt 263 0 [some (zrv x0), some (zI x1), some (zI x2), some (zrv x3), none] [] h (zoI r) h' := by
  unfold zm263 at H
  refine zA_aldn rfl rfl rfl ?_
  refine zA_push rfl rfl zkk7 ?_
  refine zA_aldn rfl rfl rfl ?_
  refine zA_ldn rfl rfl rfl ?_
  refine zA_ldn rfl rfl rfl ?_
  obtain ⟨p21, i22, e23, c24, H⟩ := zob_e H
  rcases zbH_e H with ⟨x26, h25, C, H⟩ | ⟨E, h25, c36, C, hc, H⟩
  · refine zA_callV (as := [zrv x0, zI x1, zI x2]) (st' := [zI (0 : Int32), zrv x3]) rfl rfl rfl (zrcv_Q e23 c24) rfl (zmE93 _ _ _) rfl (zmS93 C) ?_
    refine zA_st (st' := [zJ (x26.toInt64), zI (0 : Int32), zrv x3]) rfl rfl rfl rfl ?_
    obtain ⟨p27, i28, j29, e30, c31, c32, e33, H⟩ := zar_e H
    obtain ⟨h34, e35, H⟩ := zlet_e H
    refine zA_las rfl rfl e30 c31 c32 e33 e35 ?_
    refine zA_go rfl rfl ?_
    refine zA_tr (L := [none, none, none, none, none]) rfl rfl ?_
    refine zA_push rfl rfl zkk7 ?_
    cases H
    exact zA_ret rfl rfl
  · cases H
    exact zA_callH (as := [zrv x0, zI x1, zI x2]) (st' := [zI (0 : Int32), zrv x3]) rfl rfl (zrcv_Q e23 c24) rfl (zmE93 _ _ _) rfl rfl rfl (List.cons_ne_nil _ _) hc (zmS93 C)
theorem zmE263 (x0 : zq) (x1 : Int32) (x2 : Int32) (x3 : zq) : zpad (zPr.2.1 263).1 (zil [zrv x0, zI x1, zI x2, zrv x3]) = [some (zrv x0), some (zI x1), some (zI x2), some (zrv x3), none] := by
  simp only [zil_A, zil_I, zil_F, zil_D, zil_N]
  rfl
def zm201_42 (k23 : zq → Int32 → Int32 → Int32 → Int32 → zH → zRs Int32) (x0 : zq) (x1 : Int32) (x3 : Int32) (x5 : Int32) (s0 : Int32) (h : zH) : zRs Int32 :=
  zlet (x5 + (-1 : Int32)) fun x21 =>
  k23 x0 x1 x3 s0 x21 h
theorem zmS201_42 {k23 : zq → Int32 → Int32 → Int32 → Int32 → zH → zRs Int32} (hk23 : ∀ (x0 : zq) (x1 : Int32) (x3 : Int32) (x4 : Int32) (x5 : Int32) (h : zH) (r : Int32 ⊕ Nat) (h' : zH), k23 x0 x1 x3 x4 x5 h = some (r, h') → zAt 201 23 [some (zrv x0), some (zI x1), none, some (zI x3), some (zI x4), some (zI x5)] [] h (zoI r) h') : ∀ (x0 : zq) (x1 : Int32) (x3 : Int32) (x5 : Int32) (s0 : Int32) (h : zH) (r : Int32 ⊕ Nat) (h' : zH), zm201_42 k23 x0 x1 x3 x5 s0 h = some (r, h') → zAt 201 42 [some (zrv x0), some (zI x1), none, some (zI x3), none, some (zI x5)] [zI s0] h (zoI r) h' := by
  intro x0 x1 x3 x5 s0 h r h' H
  unfold zm201_42 at H
  refine zA_ist2 rfl rfl rfl (zset1 (L' := [some (zrv x0), some (zI x1), none, some (zI x3), some (zI s0), some (zI x5)]) rfl rfl (zpcV rfl rfl)) ?_
  obtain ⟨x21, e22, H⟩ := zlet_e H
  refine zA_inc rfl rfl rfl (e22.trans (congrArg (_ + ·) zkk50)) (zset1 (L' := [some (zrv x0), some (zI x1), none, some (zI x3), some (zI s0), some (zI x21)]) rfl rfl (zpcV rfl rfl)) ?_
  refine zA_go rfl rfl ?_
  exact zA_tr (L := [some (zrv x0), some (zI x1), none, some (zI x3), some (zI s0), some (zI x21)]) rfl rfl (hk23 _ _ _ _ _ _ _ _ H)
def zm201_23 : Nat → zq → Int32 → Int32 → Int32 → Int32 → zH → zRs Int32
  | 0, _, _, _, _, _, _ => none
  | n + 1, x0, x1, x3, x4, x5, h =>
    if x5 ≤ x3 then
      some (.inl x4, h)
    else
      if x3 = (-1 : Int32) then
        some (.inl x4, h)
      else
        zob 12 x0 fun p23 i24 =>
        zri (zr h p23 i24 3) x5 h fun v34 =>
        if v34 = x1 then
          zb (zm151 x0 x5 h) fun x38 h37 =>
          if x38 = 0 then
            zm201_42 (zm201_23 n) x0 x1 x3 x5 x5 h37
          else
            zm201_42 (zm201_23 n) x0 x1 x3 x5 x4 h37
        else
          zm201_42 (zm201_23 n) x0 x1 x3 x5 x4 h
theorem zmS201_23 : ∀ (n : Nat) (x0 : zq) (x1 : Int32) (x3 : Int32) (x4 : Int32) (x5 : Int32) (h : zH) (r : Int32 ⊕ Nat) (h' : zH), zm201_23 n x0 x1 x3 x4 x5 h = some (r, h') → zAt 201 23 [some (zrv x0), some (zI x1), none, some (zI x3), some (zI x4), some (zI x5)] [] h (zoI r) h' := by
  intro n
  induction n with
  | zero => intro x0 x1 x3 x4 x5 h r h' H; cases H
  | succ n ih =>
    intro x0 x1 x3 x4 x5 h r h' H
    unfold zm201_23 at H
    refine zA_ld rfl rfl rfl ?_
    refine zA_ldn rfl rfl rfl ?_
    rcases zite_e H with ⟨c21, H⟩ | ⟨c21, H⟩
    · refine zA_brT (c := x5 ≤ x3) rfl rfl rfl c21 ?_
      refine zA_tr (L := [none, none, none, none, some (zI x4), none]) rfl rfl ?_
      refine zA_ld rfl rfl rfl ?_
      cases H
      exact zA_ret rfl rfl
    · refine zA_brF (c := x5 ≤ x3) rfl rfl rfl c21 ?_
      refine zA_ldn rfl rfl rfl ?_
      refine zA_push rfl rfl zkk6 ?_
      rcases zite_e H with ⟨c22, H⟩ | ⟨c22, H⟩
      · refine zA_brT (c := x3 = (-1 : Int32)) rfl rfl rfl c22 ?_
        refine zA_tr (L := [none, none, none, none, some (zI x4), none]) rfl rfl ?_
        refine zA_ld rfl rfl rfl ?_
        cases H
        exact zA_ret rfl rfl
      · refine zA_brF (c := x3 = (-1 : Int32)) rfl rfl rfl c22 ?_
        refine zA_aldn rfl rfl rfl ?_
        obtain ⟨p23, i24, e25, c26, H⟩ := zob_e H
        refine zA_gf3 rfl rfl e25 c26 ?_
        refine zA_ld rfl rfl rfl ?_
        obtain ⟨p27, i28, j29, v34, e30, c31, c32, e33, e35, H⟩ := zri_e H
        refine zA_ial rfl rfl e30 c31 c32 e33 e35 ?_
        refine zA_ldn rfl rfl rfl ?_
        rcases zite_e H with ⟨c36, H⟩ | ⟨c36, H⟩
        · refine zA_brF' (c := v34 = x1) rfl rfl rfl c36 ?_
          refine zA_aldn rfl rfl rfl ?_
          refine zA_ld rfl rfl rfl ?_
          rcases zb_e H with ⟨x38, h37, C, H⟩ | ⟨E, h37, C, H⟩
          · refine zA_callV (as := [zrv x0, zI x5]) (st' := []) rfl rfl rfl (zrcv_Q e25 c26) rfl (zmE151 _ _) rfl (zmS151 C) ?_
            rcases zite_e H with ⟨c39, H⟩ | ⟨c39, H⟩
            · refine zA_brF' (c := x38 = 0) rfl rfl rfl c39 ?_
              refine zA_ld rfl rfl rfl ?_
              refine zA_go rfl rfl ?_
              exact zA_tr (L := [some (zrv x0), some (zI x1), none, some (zI x3), none, some (zI x5)]) rfl rfl (zmS201_42 ih _ _ _ _ _ _ _ _ H)
            · refine zA_brT' (c := x38 = 0) rfl rfl rfl c39 ?_
              refine zA_ld rfl rfl rfl ?_
              exact zA_tr (L := [some (zrv x0), some (zI x1), none, some (zI x3), none, some (zI x5)]) rfl rfl (zmS201_42 ih _ _ _ _ _ _ _ _ H)
          · cases H
            exact zA_callX (as := [zrv x0, zI x5]) (st' := []) rfl rfl (zrcv_Q e25 c26) rfl (zmE151 _ _) rfl rfl rfl (zmS151 C)
        · refine zA_brT' (c := v34 = x1) rfl rfl rfl c36 ?_
          refine zA_ld rfl rfl rfl ?_
          exact zA_tr (L := [some (zrv x0), some (zI x1), none, some (zI x3), none, some (zI x5)]) rfl rfl (zmS201_42 ih _ _ _ _ _ _ _ _ H)
-- 201: ReleaseHouseModel.wayOut(II)I
def zm201 (x0 : zq) (x1 : Int32) (x2 : Int32) (h : zH) : zRs Int32 :=
  zob 12 x0 fun p21 i22 =>
  zb (zm191 x0 x1 x2 h) fun x26 h25 =>
  if x26 = 0 then
    some (.inl (0 : Int32), h25)
  else
    zri (zr h25 p21 i22 12) (((3 : Int32) * x1) + x2) h25 fun v35 =>
    zlet ((zi h25 p21 i22 2) - (1 : Int32)) fun x37 =>
    zm201_23 zN0 x0 x1 v35 (-1 : Int32) x37 h25
theorem zmS201 {x0 : zq} {x1 : Int32} {x2 : Int32} {h : zH} {r : Int32 ⊕ Nat} {h' : zH} (H : zm201 x0 x1 x2 h = some (r, h')) : zAt 201 0 [some (zrv x0), some (zI x1), some (zI x2), none, none, none] [] h (zoI r) h' := by
  unfold zm201 at H
  refine zA_aldn rfl rfl rfl ?_
  refine zA_ldn rfl rfl rfl ?_
  refine zA_ldn rfl rfl rfl ?_
  obtain ⟨p21, i22, e23, c24, H⟩ := zob_e H
  rcases zb_e H with ⟨x26, h25, C, H⟩ | ⟨E, h25, C, H⟩
  · refine zA_callV (as := [zrv x0, zI x1, zI x2]) (st' := []) rfl rfl rfl (zrcv_Q e23 c24) rfl (zmE191 _ _ _) rfl (zmS191 C) ?_
    rcases zite_e H with ⟨c27, H⟩ | ⟨c27, H⟩
    · refine zA_brF' (c := x26 = 0) rfl rfl rfl c27 ?_
      refine zA_push rfl rfl zkk7 ?_
      cases H
      exact zA_ret rfl rfl
    · refine zA_brT' (c := x26 = 0) rfl rfl rfl c27 ?_
      refine zA_aldn rfl rfl rfl ?_
      refine zA_gf3 rfl rfl e23 c24 ?_
      refine zA_push rfl rfl zkk3 ?_
      refine zA_ldn rfl rfl rfl ?_
      refine zA_st (st' := [zI ((3 : Int32) * x1), zrv (zr h25 p21 i22 12)]) rfl rfl rfl rfl ?_
      refine zA_ldn rfl rfl rfl ?_
      refine zA_st (st' := [zI (((3 : Int32) * x1) + x2), zrv (zr h25 p21 i22 12)]) rfl rfl rfl rfl ?_
      obtain ⟨p28, i29, j30, v35, e31, c32, c33, e34, e36, H⟩ := zri_e H
      refine zA_ial rfl rfl e31 c32 c33 e34 e36 ?_
      refine zA_istn2 rfl rfl rfl (zset1 (L' := [some (zrv x0), some (zI x1), some (zI x2), some (zI v35), none, none]) rfl rfl (zpcV rfl rfl)) ?_
      refine zA_push rfl rfl zkk6 ?_
      refine zA_ist2 rfl rfl rfl (zset1 (L' := [some (zrv x0), some (zI x1), some (zI x2), some (zI v35), some (zI (-1 : Int32)), none]) rfl rfl (zpcV rfl rfl)) ?_
      refine zA_aldn rfl rfl rfl ?_
      refine zA_gf0 rfl rfl (Or.inl rfl) e23 c24 ?_
      refine zA_push rfl rfl zkk5 ?_
      refine zA_st (st' := [zI ((zi h25 p21 i22 2) - (1 : Int32))]) rfl rfl rfl rfl ?_
      obtain ⟨x37, e38, H⟩ := zlet_e H
      refine zA_ist2 rfl rfl e38 (zset1 (L' := [some (zrv x0), some (zI x1), some (zI x2), some (zI v35), some (zI (-1 : Int32)), some (zI x37)]) rfl rfl (zpcV rfl rfl)) ?_
      exact zA_tr (L := [some (zrv x0), some (zI x1), none, some (zI v35), some (zI (-1 : Int32)), some (zI x37)]) rfl rfl (zmS201_23 zN0 _ _ _ _ _ _ _ _ H)
  · cases H
    exact zA_callX (as := [zrv x0, zI x1, zI x2]) (st' := []) rfl rfl (zrcv_Q e23 c24) rfl (zmE191 _ _ _) rfl rfl rfl (zmS191 C)
theorem zmE201 (x0 : zq) (x1 : Int32) (x2 : Int32) : zpad (zPr.2.1 201).1 (zil [zrv x0, zI x1, zI x2]) = [some (zrv x0), some (zI x1), some (zI x2), none, none, none] := by
  simp only [zil_A, zil_I, zil_F, zil_D, zil_N]
  rfl
-- 94: ReleaseHouse.expand(II)V
def zm94 (x0 : zq) (x1 : Int32) (x2 : Int32) (h : zH) : zRs Unit :=
  zb (zm131 x1 (0 : Int32) (3 : Int32) h) fun _ h21 =>
  zb (zm131 x2 (0 : Int32) (7 : Int32) h21) fun _ h22 =>
  zob 11 x0 fun p23 i24 =>
  zra (zr h22 p23 i24 6) x1 h22 fun v34 =>
  zob 8 v34 fun p36 i37 =>
  zb (zm133 (zi h22 p36 i37 3) x2 h22) fun x41 h40 =>
  if x41 = 0 then
    zlet (zsi h40 p36 i37 3 ((zi h40 p36 i37 3) ||| ((1 : Int32) <<< (x2 &&& 31)))) fun h43 =>
    some (.inl (), h43)
  else
    some (.inr 1, zro h40 1 6)
theorem zmS94 {x0 : zq} {x1 : Int32} {x2 : Int32} {h : zH} {r : Unit ⊕ Nat} {h' : zH} (H : zm94 x0 x1 x2 h = some (r, h')) : zAt 94 0 [some (zrv x0), some (zI x1), some (zI x2), none] [] h (zoU r) h' := by
  unfold zm94 at H
  refine zA_ldn rfl rfl rfl ?_
  refine zA_push rfl rfl zkk7 ?_
  refine zA_push rfl rfl zkk3 ?_
  rcases zb_e H with ⟨u46, h21, C, H⟩ | ⟨E, h21, C, H⟩
  · refine zA_callU (as := [zI x1, zI (0 : Int32), zI (3 : Int32)]) (st' := []) rfl rfl rfl rfl rfl (zmE131 _ _ _) rfl (zmS131 C) ?_
    refine zA_ldn rfl rfl rfl ?_
    refine zA_push rfl rfl zkk7 ?_
    refine zA_push rfl rfl zkk22 ?_
    rcases zb_e H with ⟨u45, h22, C, H⟩ | ⟨E, h22, C, H⟩
    · refine zA_callU (as := [zI x2, zI (0 : Int32), zI (7 : Int32)]) (st' := []) rfl rfl rfl rfl rfl (zmE131 _ _ _) rfl (zmS131 C) ?_
      refine zA_aldn rfl rfl rfl ?_
      obtain ⟨p23, i24, e25, c26, H⟩ := zob_e H
      refine zA_gf3 rfl rfl e25 c26 ?_
      refine zA_ldn rfl rfl rfl ?_
      obtain ⟨p27, i28, j29, v34, e30, c31, c32, e33, e35, H⟩ := zra_e H
      refine zA_aal rfl rfl e30 c31 c32 e33 e35 ?_
      refine zA_astn2 rfl rfl rfl (zset1 (L' := [some (zrv x0), some (zI x1), some (zI x2), some (zrv v34)]) (zcat_rv _) rfl (zpcV rfl rfl)) ?_
      refine zA_aldn rfl rfl rfl ?_
      obtain ⟨p36, i37, e38, c39, H⟩ := zob_e H
      refine zA_gf0 rfl rfl (Or.inl rfl) e38 c39 ?_
      refine zA_ldn rfl rfl rfl ?_
      rcases zb_e H with ⟨x41, h40, C, H⟩ | ⟨E, h40, C, H⟩
      · refine zA_callV (as := [zI (zi h22 p36 i37 3), zI x2]) (st' := []) rfl rfl rfl rfl rfl (zmE133 _ _) rfl (zmS133 C) ?_
        rcases zite_e H with ⟨c42, H⟩ | ⟨c42, H⟩
        · refine zA_brT (c := x41 = 0) rfl rfl rfl c42 ?_
          refine zA_tr (L := [none, none, some (zI x2), some (zrv v34)]) rfl rfl ?_
          refine zA_aldn rfl rfl rfl ?_
          refine zA_dup rfl rfl (zcat_rv _) ?_
          refine zA_gf0 rfl rfl (Or.inl rfl) e38 c39 ?_
          refine zA_push rfl rfl zkk5 ?_
          refine zA_ldn rfl rfl rfl ?_
          refine zA_st (st' := [zI ((1 : Int32) <<< (x2 &&& 31)), zI (zi h40 p36 i37 3), zrv v34]) rfl rfl rfl rfl ?_
          refine zA_st (st' := [zI ((zi h40 p36 i37 3) ||| ((1 : Int32) <<< (x2 &&& 31))), zrv v34]) rfl rfl rfl rfl ?_
          obtain ⟨h43, e44, H⟩ := zlet_e H
          refine zA_pf0 rfl rfl e38 c39 e44 ?_
          cases H
          exact zA_ret rfl rfl
        · refine zA_brF (c := x41 = 0) rfl rfl rfl c42 ?_
          cases H
          exact zA_thr rfl rfl
      · cases H
        exact zA_callX (as := [zI (zi h22 p36 i37 3), zI x2]) (st' := []) rfl rfl rfl rfl (zmE133 _ _) rfl rfl rfl (zmS133 C)
    · cases H
      exact zA_callX (as := [zI x2, zI (0 : Int32), zI (7 : Int32)]) (st' := []) rfl rfl rfl rfl (zmE131 _ _ _) rfl rfl rfl (zmS131 C)
  · cases H
    exact zA_callX (as := [zI x1, zI (0 : Int32), zI (3 : Int32)]) (st' := []) rfl rfl rfl rfl (zmE131 _ _ _) rfl rfl rfl (zmS131 C)
theorem zmE94 (x0 : zq) (x1 : Int32) (x2 : Int32) : zpad (zPr.2.1 94).1 (zil [zrv x0, zI x1, zI x2]) = [some (zrv x0), some (zI x1), some (zI x2), none] := by
  simp only [zil_A, zil_I, zil_F, zil_D, zil_N]
  rfl
-- 264: ReleaseHouseLaw.expand(LReleaseHouse;II)I
def zm264 (x0 : zq) (x1 : Int32) (x2 : Int32) (h : zH) : zRs Int32 :=
  zob 11 x0 fun p21 i22 =>
  zbH [(0, 4, 0, 1), (0, 4, 1, 2)] 3 (zm94 x0 x1 x2 h) fun _ h25 =>
  some (.inl (0 : Int32), h25)
theorem zmS264 {x0 : zq} {x1 : Int32} {x2 : Int32} {h : zH} {r : Int32 ⊕ Nat} {h' : zH} (H : zm264 x0 x1 x2 h = some (r, h')) : zAt 264 0 [some (zrv x0), some (zI x1), some (zI x2), none] [] h (zoI r) h' := by
  unfold zm264 at H
  refine zA_aldn rfl rfl rfl ?_
  refine zA_ldn rfl rfl rfl ?_
  refine zA_ldn rfl rfl rfl ?_
  obtain ⟨p21, i22, e23, c24, H⟩ := zob_e H
  rcases zbH_e H with ⟨u26, h25, C, H⟩ | ⟨E, h25, c27, C, hc, H⟩
  · refine zA_callU (as := [zrv x0, zI x1, zI x2]) (st' := []) rfl rfl rfl (zrcv_Q e23 c24) rfl (zmE94 _ _ _) rfl (zmS94 C) ?_
    refine zA_go rfl rfl ?_
    refine zA_tr (L := [none, none, none, none]) rfl rfl ?_
    refine zA_push rfl rfl zkk7 ?_
    cases H
    exact zA_ret rfl rfl
  · cases H
    exact zA_callH (as := [zrv x0, zI x1, zI x2]) (st' := []) rfl rfl (zrcv_Q e23 c24) rfl (zmE94 _ _ _) rfl rfl rfl (List.cons_ne_nil _ _) hc (zmS94 C)
theorem zmE264 (x0 : zq) (x1 : Int32) (x2 : Int32) : zpad (zPr.2.1 264).1 (zil [zrv x0, zI x1, zI x2]) = [some (zrv x0), some (zI x1), some (zI x2), none] := by
  simp only [zil_A, zil_I, zil_F, zil_D, zil_N]
  rfl
-- 202: ReleaseHouseModel.isSchema(II)Z
def zm202 (x0 : zq) (x1 : Int32) (x2 : Int32) (h : zH) : zRs Int32 :=
  zb (zm140 x1 h) fun x22 h21 =>
  if x22 = 0 then
    some (.inl (0 : Int32), h21)
  else
    zb (zm139 x2 (0 : Int32) (7 : Int32) h21) fun x25 h24 =>
    if x25 = 0 then
      some (.inl (0 : Int32), h24)
    else
      some (.inl (1 : Int32), h24)
theorem zmS202 {x0 : zq} {x1 : Int32} {x2 : Int32} {h : zH} {r : Int32 ⊕ Nat} {h' : zH} (H : zm202 x0 x1 x2 h = some (r, h')) : zAt 202 0 [some (zrv x0), some (zI x1), some (zI x2)] [] h (zoI r) h' := by
  unfold zm202 at H
  refine zA_ldn rfl rfl rfl ?_
  rcases zb_e H with ⟨x22, h21, C, H⟩ | ⟨E, h21, C, H⟩
  · refine zA_callV (as := [zI x1]) (st' := []) rfl rfl rfl rfl rfl (zmE140 _) rfl (zmS140 C) ?_
    rcases zite_e H with ⟨c23, H⟩ | ⟨c23, H⟩
    · refine zA_brT (c := x22 = 0) rfl rfl rfl c23 ?_
      refine zA_tr (L := [none, none, none]) rfl rfl ?_
      refine zA_push rfl rfl zkk7 ?_
      cases H
      exact zA_ret rfl (zret_Z (by decide))
    · refine zA_brF (c := x22 = 0) rfl rfl rfl c23 ?_
      refine zA_ldn rfl rfl rfl ?_
      refine zA_push rfl rfl zkk7 ?_
      refine zA_push rfl rfl zkk22 ?_
      rcases zb_e H with ⟨x25, h24, C, H⟩ | ⟨E, h24, C, H⟩
      · refine zA_callV (as := [zI x2, zI (0 : Int32), zI (7 : Int32)]) (st' := []) rfl rfl rfl rfl rfl (zmE139 _ _ _) rfl (zmS139 C) ?_
        rcases zite_e H with ⟨c26, H⟩ | ⟨c26, H⟩
        · refine zA_brT (c := x25 = 0) rfl rfl rfl c26 ?_
          refine zA_tr (L := [none, none, none]) rfl rfl ?_
          refine zA_push rfl rfl zkk7 ?_
          cases H
          exact zA_ret rfl (zret_Z (by decide))
        · refine zA_brF (c := x25 = 0) rfl rfl rfl c26 ?_
          refine zA_push rfl rfl zkk5 ?_
          refine zA_go rfl rfl ?_
          refine zA_tr (L := [none, none, none]) rfl rfl ?_
          cases H
          exact zA_ret rfl (zret_Z (by decide))
      · cases H
        exact zA_callX (as := [zI x2, zI (0 : Int32), zI (7 : Int32)]) (st' := []) rfl rfl rfl rfl (zmE139 _ _ _) rfl rfl rfl (zmS139 C)
  · cases H
    exact zA_callX (as := [zI x1]) (st' := []) rfl rfl rfl rfl (zmE140 _) rfl rfl rfl (zmS140 C)
theorem zmE202 (x0 : zq) (x1 : Int32) (x2 : Int32) : zpad (zPr.2.1 202).1 (zil [zrv x0, zI x1, zI x2]) = [some (zrv x0), some (zI x1), some (zI x2)] := by
  simp only [zil_A, zil_I, zil_F, zil_D, zil_N]
  rfl
def zm204_21 (x0 : zq) (x1 : Int32) (x2 : Int32) (s0 : zq) (s1 : Int32) (h : zH) : zRs Unit :=
  zob 12 s0 fun p21 i22 =>
  zlet (zsi h p21 i22 0 s1) fun h25 =>
  zob 12 x0 fun p27 i28 =>
  if (zi h25 p27 i28 0) = 0 then
    zri (zr h25 p27 i28 21) x1 h25 fun v39 =>
    zar 1 (zr h25 p27 i28 21) x1 h25 fun p41 i42 j43 =>
    zlet (zsi h25 p41 i42 j43 (v39 ||| ((1 : Int32) <<< (x2 &&& 31)))) fun h48 =>
    some (.inl (), h48)
  else
    some (.inl (), h25)
theorem zmS204_21 : ∀ (x0 : zq) (x1 : Int32) (x2 : Int32) (s0 : zq) (s1 : Int32) (h : zH) (r : Unit ⊕ Nat) (h' : zH), zm204_21 x0 x1 x2 s0 s1 h = some (r, h') → zAt 204 21 [some (zrv x0), some (zI x1), some (zI x2)] [zI s1, zrv s0] h (zoU r) h' := by
  intro x0 x1 x2 s0 s1 h r h' H
  unfold zm204_21 at H
  obtain ⟨p21, i22, e23, c24, H⟩ := zob_e H
  obtain ⟨h25, e26, H⟩ := zlet_e H
  refine zA_pf0 rfl rfl e23 c24 e26 ?_
  refine zA_aldn rfl rfl rfl ?_
  obtain ⟨p27, i28, e29, c30, H⟩ := zob_e H
  refine zA_gf0 rfl rfl (Or.inl rfl) e29 c30 ?_
  rcases zite_e H with ⟨c31, H⟩ | ⟨c31, H⟩
  · refine zA_brF' (c := (zi h25 p27 i28 0) = 0) rfl rfl rfl c31 ?_
    refine zA_aldn rfl rfl rfl ?_
    refine zA_gf3 rfl rfl e29 c30 ?_
    refine zA_ldn rfl rfl rfl ?_
    refine zA_dup2 rfl rfl rfl (zcat_rv _) ?_
    obtain ⟨p32, i33, j34, v39, e35, c36, c37, e38, e40, H⟩ := zri_e H
    refine zA_ial rfl rfl e35 c36 c37 e38 e40 ?_
    refine zA_push rfl rfl zkk5 ?_
    refine zA_ldn rfl rfl rfl ?_
    refine zA_st (st' := [zI ((1 : Int32) <<< (x2 &&& 31)), zI v39, zI x1, zrv (zr h25 p27 i28 21)]) rfl rfl rfl rfl ?_
    refine zA_st (st' := [zI (v39 ||| ((1 : Int32) <<< (x2 &&& 31))), zI x1, zrv (zr h25 p27 i28 21)]) rfl rfl rfl rfl ?_
    obtain ⟨p41, i42, j43, e44, c45, c46, e47, H⟩ := zar_e H
    obtain ⟨h48, e49, H⟩ := zlet_e H
    refine zA_ias rfl rfl e44 c45 c46 e47 e49 ?_
    refine zA_tr (L := [none, none, none]) rfl rfl ?_
    cases H
    exact zA_ret rfl rfl
  · refine zA_brT' (c := (zi h25 p27 i28 0) = 0) rfl rfl rfl c31 ?_
    refine zA_tr (L := [none, none, none]) rfl rfl ?_
    cases H
    exact zA_ret rfl rfl
-- 204: ReleaseHouseModel.expand(II)V
def zm204 (x0 : zq) (x1 : Int32) (x2 : Int32) (h : zH) : zRs Unit :=
  zob 12 x0 fun p21 i22 =>
  zb (zm202 x0 x1 x2 h) fun x26 h25 =>
  if x26 = 0 then
    zm204_21 x0 x1 x2 x0 (1 : Int32) h25
  else
    zri (zr h25 p21 i22 21) x1 h25 fun v35 =>
    if ((v35 >>> (x2 &&& 31)) &&& (1 : Int32)) = (1 : Int32) then
      zm204_21 x0 x1 x2 x0 (2 : Int32) h25
    else
      zm204_21 x0 x1 x2 x0 (0 : Int32) h25
theorem zmS204 {x0 : zq} {x1 : Int32} {x2 : Int32} {h : zH} {r : Unit ⊕ Nat} {h' : zH} (H : zm204 x0 x1 x2 h = some (r, h')) : zAt 204 0 [some (zrv x0), some (zI x1), some (zI x2)] [] h (zoU r) h' := by
  unfold zm204 at H
  refine zA_aldn rfl rfl rfl ?_
  refine zA_aldn rfl rfl rfl ?_
  refine zA_ldn rfl rfl rfl ?_
  refine zA_ldn rfl rfl rfl ?_
  obtain ⟨p21, i22, e23, c24, H⟩ := zob_e H
  rcases zb_e H with ⟨x26, h25, C, H⟩ | ⟨E, h25, C, H⟩
  · refine zA_callV (as := [zrv x0, zI x1, zI x2]) (st' := [zrv x0]) rfl rfl rfl (zrcv_Q e23 c24) rfl (zmE202 _ _ _) rfl (zmS202 C) ?_
    rcases zite_e H with ⟨c27, H⟩ | ⟨c27, H⟩
    · refine zA_brF' (c := x26 = 0) rfl rfl rfl c27 ?_
      refine zA_push rfl rfl zkk5 ?_
      refine zA_go rfl rfl ?_
      exact zA_tr (L := [some (zrv x0), some (zI x1), some (zI x2)]) rfl rfl (zmS204_21 _ _ _ _ _ _ _ _ H)
    · refine zA_brT' (c := x26 = 0) rfl rfl rfl c27 ?_
      refine zA_aldn rfl rfl rfl ?_
      refine zA_gf3 rfl rfl e23 c24 ?_
      refine zA_ldn rfl rfl rfl ?_
      obtain ⟨p28, i29, j30, v35, e31, c32, c33, e34, e36, H⟩ := zri_e H
      refine zA_ial rfl rfl e31 c32 c33 e34 e36 ?_
      refine zA_ldn rfl rfl rfl ?_
      refine zA_st (st' := [zI (v35 >>> (x2 &&& 31)), zrv x0]) rfl rfl rfl rfl ?_
      refine zA_push rfl rfl zkk5 ?_
      refine zA_st (st' := [zI ((v35 >>> (x2 &&& 31)) &&& (1 : Int32)), zrv x0]) rfl rfl rfl rfl ?_
      refine zA_push rfl rfl zkk5 ?_
      rcases zite_e H with ⟨c37, H⟩ | ⟨c37, H⟩
      · refine zA_brF' (c := ((v35 >>> (x2 &&& 31)) &&& (1 : Int32)) = (1 : Int32)) rfl rfl rfl c37 ?_
        refine zA_push rfl rfl zkk23 ?_
        refine zA_go rfl rfl ?_
        exact zA_tr (L := [some (zrv x0), some (zI x1), some (zI x2)]) rfl rfl (zmS204_21 _ _ _ _ _ _ _ _ H)
      · refine zA_brT' (c := ((v35 >>> (x2 &&& 31)) &&& (1 : Int32)) = (1 : Int32)) rfl rfl rfl c37 ?_
        refine zA_push rfl rfl zkk7 ?_
        exact zA_tr (L := [some (zrv x0), some (zI x1), some (zI x2)]) rfl rfl (zmS204_21 _ _ _ _ _ _ _ _ H)
  · cases H
    exact zA_callX (as := [zrv x0, zI x1, zI x2]) (st' := [zrv x0]) rfl rfl (zrcv_Q e23 c24) rfl (zmE202 _ _ _) rfl rfl rfl (zmS202 C)
theorem zmE204 (x0 : zq) (x1 : Int32) (x2 : Int32) : zpad (zPr.2.1 204).1 (zil [zrv x0, zI x1, zI x2]) = [some (zrv x0), some (zI x1), some (zI x2)] := by
  simp only [zil_A, zil_I, zil_F, zil_D, zil_N]
  rfl
def zm96_27 (k2 : zq → Int32 → Int32 → Int32 → zH → zRs Int32) (x0 : zq) (x1 : Int32) (x2 : Int32) (x3 : Int32) (h : zH) : zRs Int32 :=
  zlet (x3 + (1 : Int32)) fun x21 =>
  k2 x0 x1 x2 x21 h
theorem zmS96_27 {k2 : zq → Int32 → Int32 → Int32 → zH → zRs Int32} (hk2 : ∀ (x0 : zq) (x1 : Int32) (x2 : Int32) (x3 : Int32) (h : zH) (r : Int32 ⊕ Nat) (h' : zH), k2 x0 x1 x2 x3 h = some (r, h') → zAt 96 2 [some (zrv x0), some (zI x1), some (zI x2), some (zI x3), none] [] h (zoI r) h') : ∀ (x0 : zq) (x1 : Int32) (x2 : Int32) (x3 : Int32) (h : zH) (r : Int32 ⊕ Nat) (h' : zH), zm96_27 k2 x0 x1 x2 x3 h = some (r, h') → zAt 96 27 [some (zrv x0), some (zI x1), some (zI x2), some (zI x3), none] [] h (zoI r) h' := by
  intro x0 x1 x2 x3 h r h' H
  unfold zm96_27 at H
  obtain ⟨x21, e22, H⟩ := zlet_e H
  refine zA_inc rfl rfl rfl (e22.trans (congrArg (_ + ·) zkk8)) (zset1 (L' := [some (zrv x0), some (zI x1), some (zI x2), some (zI x21), none]) rfl rfl (zpcV rfl rfl)) ?_
  refine zA_go rfl rfl ?_
  exact zA_tr (L := [some (zrv x0), some (zI x1), some (zI x2), some (zI x21), none]) rfl rfl (hk2 _ _ _ _ _ _ _ H)
def zm96_2 : Nat → zq → Int32 → Int32 → Int32 → zH → zRs Int32
  | 0, _, _, _, _, _ => none
  | n + 1, x0, x1, x2, x3, h =>
    zob 11 x0 fun p21 i22 =>
    zlz (zr h p21 i22 0) h fun v30 =>
    if v30 ≤ x3 then
      some (.inl (1 : Int32), h)
    else
      zlg (zr h p21 i22 0) x3 h fun v39 =>
      zob 0 v39 fun p41 i42 =>
      if (zi h p41 i42 1) = x1 then
        if (zi h p41 i42 10) ≤ 0 then
          zm96_27 (zm96_2 n) x0 x1 x2 x3 h
        else
          zb (zm133 (zi h p41 i42 6) x2 h) fun x48 h47 =>
          if x48 = 0 then
            some (.inl (0 : Int32), h47)
          else
            zm96_27 (zm96_2 n) x0 x1 x2 x3 h47
      else
        zm96_27 (zm96_2 n) x0 x1 x2 x3 h
theorem zmS96_2 : ∀ (n : Nat) (x0 : zq) (x1 : Int32) (x2 : Int32) (x3 : Int32) (h : zH) (r : Int32 ⊕ Nat) (h' : zH), zm96_2 n x0 x1 x2 x3 h = some (r, h') → zAt 96 2 [some (zrv x0), some (zI x1), some (zI x2), some (zI x3), none] [] h (zoI r) h' := by
  intro n
  induction n with
  | zero => intro x0 x1 x2 x3 h r h' H; cases H
  | succ n ih =>
    intro x0 x1 x2 x3 h r h' H
    unfold zm96_2 at H
    refine zA_ldn rfl rfl rfl ?_
    refine zA_aldn rfl rfl rfl ?_
    obtain ⟨p21, i22, e23, c24, H⟩ := zob_e H
    refine zA_gf3 rfl rfl e23 c24 ?_
    obtain ⟨p25, i26, v30, e27, c28, c29, e31, H⟩ := zlz_e H
    refine zA_l2 rfl rfl rfl e27 c28 c29 e31 ?_
    rcases zite_e H with ⟨c32, H⟩ | ⟨c32, H⟩
    · refine zA_brT (c := v30 ≤ x3) rfl rfl rfl c32 ?_
      refine zA_tr (L := [none, none, none, none, none]) rfl rfl ?_
      refine zA_push rfl rfl zkk5 ?_
      cases H
      exact zA_ret rfl (zret_Z (by decide))
    · refine zA_brF (c := v30 ≤ x3) rfl rfl rfl c32 ?_
      refine zA_aldn rfl rfl rfl ?_
      refine zA_gf3 rfl rfl e23 c24 ?_
      refine zA_ldn rfl rfl rfl ?_
      obtain ⟨p33, i34, v39, e35, c36, c37, c38, e40, H⟩ := zlg_e H
      refine zA_l3 rfl rfl rfl e35 c36 c37 c38 e40 ?_
      obtain ⟨p41, i42, e43, c44, H⟩ := zob_e H
      refine zA_cast rfl rfl e43 c44 ?_
      refine zA_ast2 rfl rfl rfl (zset1 (L' := [some (zrv x0), some (zI x1), some (zI x2), some (zI x3), some (zrv v39)]) (zcat_rv _) rfl (zpcV rfl rfl)) ?_
      refine zA_ald rfl rfl rfl ?_
      refine zA_gf0 rfl rfl (Or.inl rfl) e43 c44 ?_
      refine zA_ldn rfl rfl rfl ?_
      rcases zite_e H with ⟨c45, H⟩ | ⟨c45, H⟩
      · refine zA_brF' (c := (zi h p41 i42 1) = x1) rfl rfl rfl c45 ?_
        refine zA_ald rfl rfl rfl ?_
        refine zA_gf0 rfl rfl (Or.inl rfl) e43 c44 ?_
        rcases zite_e H with ⟨c46, H⟩ | ⟨c46, H⟩
        · refine zA_brT (c := (zi h p41 i42 10) ≤ 0) rfl rfl rfl c46 ?_
          exact zA_tr (L := [some (zrv x0), some (zI x1), some (zI x2), some (zI x3), none]) rfl rfl (zmS96_27 ih _ _ _ _ _ _ _ H)
        · refine zA_brF (c := (zi h p41 i42 10) ≤ 0) rfl rfl rfl c46 ?_
          refine zA_ald rfl rfl rfl ?_
          refine zA_gf0 rfl rfl (Or.inl rfl) e43 c44 ?_
          refine zA_ldn rfl rfl rfl ?_
          rcases zb_e H with ⟨x48, h47, C, H⟩ | ⟨E, h47, C, H⟩
          · refine zA_callV (as := [zI (zi h p41 i42 6), zI x2]) (st' := []) rfl rfl rfl rfl rfl (zmE133 _ _) rfl (zmS133 C) ?_
            rcases zite_e H with ⟨c49, H⟩ | ⟨c49, H⟩
            · refine zA_brF' (c := x48 = 0) rfl rfl rfl c49 ?_
              refine zA_push rfl rfl zkk7 ?_
              cases H
              exact zA_ret rfl (zret_Z (by decide))
            · refine zA_brT' (c := x48 = 0) rfl rfl rfl c49 ?_
              exact zA_tr (L := [some (zrv x0), some (zI x1), some (zI x2), some (zI x3), none]) rfl rfl (zmS96_27 ih _ _ _ _ _ _ _ H)
          · cases H
            exact zA_callX (as := [zI (zi h p41 i42 6), zI x2]) (st' := []) rfl rfl rfl rfl (zmE133 _ _) rfl rfl rfl (zmS133 C)
      · refine zA_brT' (c := (zi h p41 i42 1) = x1) rfl rfl rfl c45 ?_
        exact zA_tr (L := [some (zrv x0), some (zI x1), some (zI x2), some (zI x3), none]) rfl rfl (zmS96_27 ih _ _ _ _ _ _ _ H)
-- 96: ReleaseHouse.doAllRead(II)Z
def zm96 (x0 : zq) (x1 : Int32) (x2 : Int32) (h : zH) : zRs Int32 :=
  zm96_2 zN0 x0 x1 x2 (0 : Int32) h
theorem zmS96 {x0 : zq} {x1 : Int32} {x2 : Int32} {h : zH} {r : Int32 ⊕ Nat} {h' : zH} (H : zm96 x0 x1 x2 h = some (r, h')) : zAt 96 0 [some (zrv x0), some (zI x1), some (zI x2), none, none] [] h (zoI r) h' := by
  unfold zm96 at H
  refine zA_push rfl rfl zkk7 ?_
  refine zA_istn2 rfl rfl rfl (zset1 (L' := [some (zrv x0), some (zI x1), some (zI x2), some (zI (0 : Int32)), none]) rfl rfl (zpcV rfl rfl)) ?_
  exact zA_tr (L := [some (zrv x0), some (zI x1), some (zI x2), some (zI (0 : Int32)), none]) rfl rfl (zmS96_2 zN0 _ _ _ _ _ _ _ H)
theorem zmE96 (x0 : zq) (x1 : Int32) (x2 : Int32) : zpad (zPr.2.1 96).1 (zil [zrv x0, zI x1, zI x2]) = [some (zrv x0), some (zI x1), some (zI x2), none, none] := by
  simp only [zil_A, zil_I, zil_F, zil_D, zil_N]
  rfl
-- 95: ReleaseHouse.migrate(III)V
def zm95 (x0 : zq) (x1 : Int32) (x2 : Int32) (x3 : Int32) (h : zH) : zRs Unit :=
  zb (zm131 x1 (0 : Int32) (3 : Int32) h) fun _ h21 =>
  zb (zm131 x2 (0 : Int32) (7 : Int32) h21) fun _ h22 =>
  zb (zm131 x3 (0 : Int32) (7 : Int32) h22) fun _ h23 =>
  if x2 = x3 then
    some (.inr 0, zro h23 1 6)
  else
    zob 11 x0 fun p25 i26 =>
    zra (zr h23 p25 i26 6) x1 h23 fun v36 =>
    zob 8 v36 fun p38 i39 =>
    if (zi h23 p38 i39 5) = (-1 : Int32) then
      zb (zm133 (zi h23 p38 i39 3) x3 h23) fun x44 h43 =>
      if x44 = 0 then
        some (.inr 1, zro h43 1 6)
      else
        zb (zm96 x0 x1 x3 h43) fun x47 h46 =>
        if x47 = 0 then
          some (.inr 1, zro h46 1 6)
        else
          zlet (zsi h46 p38 i39 4 x2) fun h49 =>
          zlet (zsi h49 p38 i39 5 x3) fun h51 =>
          zlet (zsi h51 p38 i39 6 (0 : Int32)) fun h53 =>
          some (.inl (), h53)
    else
      some (.inr 1, zro h23 1 6)
theorem zmS95 {x0 : zq} {x1 : Int32} {x2 : Int32} {x3 : Int32} {h : zH} {r : Unit ⊕ Nat} {h' : zH} (H : zm95 x0 x1 x2 x3 h = some (r, h')) : zAt 95 0 [some (zrv x0), some (zI x1), some (zI x2), some (zI x3), none] [] h (zoU r) h' := by
  unfold zm95 at H
  refine zA_ldn rfl rfl rfl ?_
  refine zA_push rfl rfl zkk7 ?_
  refine zA_push rfl rfl zkk3 ?_
  rcases zb_e H with ⟨u57, h21, C, H⟩ | ⟨E, h21, C, H⟩
  · refine zA_callU (as := [zI x1, zI (0 : Int32), zI (3 : Int32)]) (st' := []) rfl rfl rfl rfl rfl (zmE131 _ _ _) rfl (zmS131 C) ?_
    refine zA_ldn rfl rfl rfl ?_
    refine zA_push rfl rfl zkk7 ?_
    refine zA_push rfl rfl zkk22 ?_
    rcases zb_e H with ⟨u56, h22, C, H⟩ | ⟨E, h22, C, H⟩
    · refine zA_callU (as := [zI x2, zI (0 : Int32), zI (7 : Int32)]) (st' := []) rfl rfl rfl rfl rfl (zmE131 _ _ _) rfl (zmS131 C) ?_
      refine zA_ldn rfl rfl rfl ?_
      refine zA_push rfl rfl zkk7 ?_
      refine zA_push rfl rfl zkk22 ?_
      rcases zb_e H with ⟨u55, h23, C, H⟩ | ⟨E, h23, C, H⟩
      · refine zA_callU (as := [zI x3, zI (0 : Int32), zI (7 : Int32)]) (st' := []) rfl rfl rfl rfl rfl (zmE131 _ _ _) rfl (zmS131 C) ?_
        refine zA_ldn rfl rfl rfl ?_
        refine zA_ldn rfl rfl rfl ?_
        rcases zite_e H with ⟨c24, H⟩ | ⟨c24, H⟩
        · refine zA_brF' (c := x2 = x3) rfl rfl rfl c24 ?_
          cases H
          exact zA_thr rfl rfl
        · refine zA_brT' (c := x2 = x3) rfl rfl rfl c24 ?_
          refine zA_aldn rfl rfl rfl ?_
          obtain ⟨p25, i26, e27, c28, H⟩ := zob_e H
          refine zA_gf3 rfl rfl e27 c28 ?_
          refine zA_ldn rfl rfl rfl ?_
          obtain ⟨p29, i30, j31, v36, e32, c33, c34, e35, e37, H⟩ := zra_e H
          refine zA_aal rfl rfl e32 c33 c34 e35 e37 ?_
          refine zA_ast2 rfl rfl rfl (zset1 (L' := [some (zrv x0), some (zI x1), some (zI x2), some (zI x3), some (zrv v36)]) (zcat_rv _) rfl (zpcV rfl rfl)) ?_
          refine zA_ald rfl rfl rfl ?_
          obtain ⟨p38, i39, e40, c41, H⟩ := zob_e H
          refine zA_gf0 rfl rfl (Or.inl rfl) e40 c41 ?_
          refine zA_push rfl rfl zkk6 ?_
          rcases zite_e H with ⟨c42, H⟩ | ⟨c42, H⟩
          · refine zA_brF' (c := (zi h23 p38 i39 5) = (-1 : Int32)) rfl rfl rfl c42 ?_
            refine zA_ald rfl rfl rfl ?_
            refine zA_gf0 rfl rfl (Or.inl rfl) e40 c41 ?_
            refine zA_ldn rfl rfl rfl ?_
            rcases zb_e H with ⟨x44, h43, C, H⟩ | ⟨E, h43, C, H⟩
            · refine zA_callV (as := [zI (zi h23 p38 i39 3), zI x3]) (st' := []) rfl rfl rfl rfl rfl (zmE133 _ _) rfl (zmS133 C) ?_
              rcases zite_e H with ⟨c45, H⟩ | ⟨c45, H⟩
              · refine zA_brT (c := x44 = 0) rfl rfl rfl c45 ?_
                refine zA_tr (L := [none, none, none, none, none]) rfl rfl ?_
                cases H
                exact zA_thr rfl rfl
              · refine zA_brF (c := x44 = 0) rfl rfl rfl c45 ?_
                refine zA_aldn rfl rfl rfl ?_
                refine zA_ldn rfl rfl rfl ?_
                refine zA_ldn rfl rfl rfl ?_
                rcases zb_e H with ⟨x47, h46, C, H⟩ | ⟨E, h46, C, H⟩
                · refine zA_callV (as := [zrv x0, zI x1, zI x3]) (st' := []) rfl rfl rfl (zrcv_Q e27 c28) rfl (zmE96 _ _ _) rfl (zmS96 C) ?_
                  rcases zite_e H with ⟨c48, H⟩ | ⟨c48, H⟩
                  · refine zA_brF' (c := x47 = 0) rfl rfl rfl c48 ?_
                    refine zA_tr (L := [none, none, none, none, none]) rfl rfl ?_
                    cases H
                    exact zA_thr rfl rfl
                  · refine zA_brT' (c := x47 = 0) rfl rfl rfl c48 ?_
                    refine zA_tr (L := [none, none, some (zI x2), some (zI x3), some (zrv v36)]) rfl rfl ?_
                    refine zA_ald rfl rfl rfl ?_
                    refine zA_ldn rfl rfl rfl ?_
                    obtain ⟨h49, e50, H⟩ := zlet_e H
                    refine zA_pf0 rfl rfl e40 c41 e50 ?_
                    refine zA_ald rfl rfl rfl ?_
                    refine zA_ldn rfl rfl rfl ?_
                    obtain ⟨h51, e52, H⟩ := zlet_e H
                    refine zA_pf0 rfl rfl e40 c41 e52 ?_
                    refine zA_ald rfl rfl rfl ?_
                    refine zA_push rfl rfl zkk7 ?_
                    obtain ⟨h53, e54, H⟩ := zlet_e H
                    refine zA_pf0 rfl rfl e40 c41 e54 ?_
                    cases H
                    exact zA_ret rfl rfl
                · cases H
                  exact zA_callX (as := [zrv x0, zI x1, zI x3]) (st' := []) rfl rfl (zrcv_Q e27 c28) rfl (zmE96 _ _ _) rfl rfl rfl (zmS96 C)
            · cases H
              exact zA_callX (as := [zI (zi h23 p38 i39 3), zI x3]) (st' := []) rfl rfl rfl rfl (zmE133 _ _) rfl rfl rfl (zmS133 C)
          · refine zA_brT' (c := (zi h23 p38 i39 5) = (-1 : Int32)) rfl rfl rfl c42 ?_
            refine zA_tr (L := [none, none, none, none, none]) rfl rfl ?_
            cases H
            exact zA_thr rfl rfl
      · cases H
        exact zA_callX (as := [zI x3, zI (0 : Int32), zI (7 : Int32)]) (st' := []) rfl rfl rfl rfl (zmE131 _ _ _) rfl rfl rfl (zmS131 C)
    · cases H
      exact zA_callX (as := [zI x2, zI (0 : Int32), zI (7 : Int32)]) (st' := []) rfl rfl rfl rfl (zmE131 _ _ _) rfl rfl rfl (zmS131 C)
  · cases H
    exact zA_callX (as := [zI x1, zI (0 : Int32), zI (3 : Int32)]) (st' := []) rfl rfl rfl rfl (zmE131 _ _ _) rfl rfl rfl (zmS131 C)
theorem zmE95 (x0 : zq) (x1 : Int32) (x2 : Int32) (x3 : Int32) : zpad (zPr.2.1 95).1 (zil [zrv x0, zI x1, zI x2, zI x3]) = [some (zrv x0), some (zI x1), some (zI x2), some (zI x3), none] := by
  simp only [zil_A, zil_I, zil_F, zil_D, zil_N]
  rfl
-- 265: ReleaseHouseLaw.migrate(LReleaseHouse;III)I
def zm265 (x0 : zq) (x1 : Int32) (x2 : Int32) (x3 : Int32) (h : zH) : zRs Int32 :=
  zob 11 x0 fun p21 i22 =>
  zbH [(0, 5, 0, 1), (0, 5, 1, 2)] 4 (zm95 x0 x1 x2 x3 h) fun _ h25 =>
  some (.inl (0 : Int32), h25)
theorem zmS265 {x0 : zq} {x1 : Int32} {x2 : Int32} {x3 : Int32} {h : zH} {r : Int32 ⊕ Nat} {h' : zH} (H : zm265 x0 x1 x2 x3 h = some (r, h')) : zAt 265 0 [some (zrv x0), some (zI x1), some (zI x2), some (zI x3), none] [] h (zoI r) h' := by
  unfold zm265 at H
  refine zA_aldn rfl rfl rfl ?_
  refine zA_ldn rfl rfl rfl ?_
  refine zA_ldn rfl rfl rfl ?_
  refine zA_ldn rfl rfl rfl ?_
  obtain ⟨p21, i22, e23, c24, H⟩ := zob_e H
  rcases zbH_e H with ⟨u26, h25, C, H⟩ | ⟨E, h25, c27, C, hc, H⟩
  · refine zA_callU (as := [zrv x0, zI x1, zI x2, zI x3]) (st' := []) rfl rfl rfl (zrcv_Q e23 c24) rfl (zmE95 _ _ _ _) rfl (zmS95 C) ?_
    refine zA_go rfl rfl ?_
    refine zA_tr (L := [none, none, none, none, none]) rfl rfl ?_
    refine zA_push rfl rfl zkk7 ?_
    cases H
    exact zA_ret rfl rfl
  · cases H
    exact zA_callH (as := [zrv x0, zI x1, zI x2, zI x3]) (st' := []) rfl rfl (zrcv_Q e23 c24) rfl (zmE95 _ _ _ _) rfl rfl rfl (List.cons_ne_nil _ _) hc (zmS95 C)
theorem zmE265 (x0 : zq) (x1 : Int32) (x2 : Int32) (x3 : Int32) : zpad (zPr.2.1 265).1 (zil [zrv x0, zI x1, zI x2, zI x3]) = [some (zrv x0), some (zI x1), some (zI x2), some (zI x3), none] := by
  simp only [zil_A, zil_I, zil_F, zil_D, zil_N]
  rfl
def zm203_51 (k4 : zq → Int32 → Int32 → Int32 → Int32 → Int32 → zH → zRs Int32) (x0 : zq) (x1 : Int32) (x2 : Int32) (x3 : Int32) (x5 : Int32) (s0 : Int32) (h : zH) : zRs Int32 :=
  zlet (x5 + (1 : Int32)) fun x21 =>
  k4 x0 x1 x2 x3 s0 x21 h
theorem zmS203_51 {k4 : zq → Int32 → Int32 → Int32 → Int32 → Int32 → zH → zRs Int32} (hk4 : ∀ (x0 : zq) (x1 : Int32) (x2 : Int32) (x3 : Int32) (x4 : Int32) (x5 : Int32) (h : zH) (r : Int32 ⊕ Nat) (h' : zH), k4 x0 x1 x2 x3 x4 x5 h = some (r, h') → zAt 203 4 [some (zrv x0), some (zI x1), some (zI x2), some (zI x3), some (zI x4), some (zI x5), none] [] h (zoI r) h') : ∀ (x0 : zq) (x1 : Int32) (x2 : Int32) (x3 : Int32) (x5 : Int32) (s0 : Int32) (h : zH) (r : Int32 ⊕ Nat) (h' : zH), zm203_51 k4 x0 x1 x2 x3 x5 s0 h = some (r, h') → zAt 203 51 [some (zrv x0), some (zI x1), some (zI x2), some (zI x3), none, some (zI x5), none] [zI s0] h (zoI r) h' := by
  intro x0 x1 x2 x3 x5 s0 h r h' H
  unfold zm203_51 at H
  refine zA_ist2 rfl rfl rfl (zset1 (L' := [some (zrv x0), some (zI x1), some (zI x2), some (zI x3), some (zI s0), some (zI x5), none]) rfl rfl (zpcV rfl rfl)) ?_
  obtain ⟨x21, e22, H⟩ := zlet_e H
  refine zA_inc rfl rfl rfl (e22.trans (congrArg (_ + ·) zkk8)) (zset1 (L' := [some (zrv x0), some (zI x1), some (zI x2), some (zI x3), some (zI s0), some (zI x21), none]) rfl rfl (zpcV rfl rfl)) ?_
  refine zA_go rfl rfl ?_
  exact zA_tr (L := [some (zrv x0), some (zI x1), some (zI x2), some (zI x3), some (zI s0), some (zI x21), none]) rfl rfl (hk4 _ _ _ _ _ _ _ _ _ H)
def zm203_32 (k4 : zq → Int32 → Int32 → Int32 → Int32 → Int32 → zH → zRs Int32) (x0 : zq) (x1 : Int32) (x2 : Int32) (x3 : Int32) (x4 : Int32) (x5 : Int32) (s0 : Int32) (h : zH) : zRs Int32 :=
  if x4 = 0 then
    zob 12 x0 fun p22 i23 =>
    zri (zr h p22 i23 3) x5 h fun v33 =>
    if v33 = x1 then
      if s0 = 0 then
        zm203_51 k4 x0 x1 x2 x3 x5 (0 : Int32) h
      else
        zb (zm148 x0 x5 (-1 : Int32) h) fun x38 h37 =>
        if x38 = 0 then
          zm203_51 k4 x0 x1 x2 x3 x5 (0 : Int32) h37
        else
          zm203_51 k4 x0 x1 x2 x3 x5 (1 : Int32) h37
    else
      zm203_51 k4 x0 x1 x2 x3 x5 (0 : Int32) h
  else
    zm203_51 k4 x0 x1 x2 x3 x5 (1 : Int32) h
theorem zmS203_32 {k4 : zq → Int32 → Int32 → Int32 → Int32 → Int32 → zH → zRs Int32} (hk4 : ∀ (x0 : zq) (x1 : Int32) (x2 : Int32) (x3 : Int32) (x4 : Int32) (x5 : Int32) (h : zH) (r : Int32 ⊕ Nat) (h' : zH), k4 x0 x1 x2 x3 x4 x5 h = some (r, h') → zAt 203 4 [some (zrv x0), some (zI x1), some (zI x2), some (zI x3), some (zI x4), some (zI x5), none] [] h (zoI r) h') : ∀ (x0 : zq) (x1 : Int32) (x2 : Int32) (x3 : Int32) (x4 : Int32) (x5 : Int32) (s0 : Int32) (h : zH) (r : Int32 ⊕ Nat) (h' : zH), zm203_32 k4 x0 x1 x2 x3 x4 x5 s0 h = some (r, h') → zAt 203 32 [some (zrv x0), some (zI x1), some (zI x2), some (zI x3), some (zI x4), some (zI x5), none] [zI s0] h (zoI r) h' := by
  intro x0 x1 x2 x3 x4 x5 s0 h r h' H
  unfold zm203_32 at H
  refine zA_ist2 rfl rfl rfl (zset1 (L' := [some (zrv x0), some (zI x1), some (zI x2), some (zI x3), some (zI x4), some (zI x5), some (zI s0)]) rfl rfl (zpcV rfl rfl)) ?_
  refine zA_ld rfl rfl rfl ?_
  rcases zite_e H with ⟨c21, H⟩ | ⟨c21, H⟩
  · refine zA_brF' (c := x4 = 0) rfl rfl rfl c21 ?_
    refine zA_aldn rfl rfl rfl ?_
    obtain ⟨p22, i23, e24, c25, H⟩ := zob_e H
    refine zA_gf3 rfl rfl e24 c25 ?_
    refine zA_ld rfl rfl rfl ?_
    obtain ⟨p26, i27, j28, v33, e29, c30, c31, e32, e34, H⟩ := zri_e H
    refine zA_ial rfl rfl e29 c30 c31 e32 e34 ?_
    refine zA_ldn rfl rfl rfl ?_
    rcases zite_e H with ⟨c35, H⟩ | ⟨c35, H⟩
    · refine zA_brF' (c := v33 = x1) rfl rfl rfl c35 ?_
      refine zA_ld rfl rfl rfl ?_
      rcases zite_e H with ⟨c36, H⟩ | ⟨c36, H⟩
      · refine zA_brT (c := s0 = 0) rfl rfl rfl c36 ?_
        refine zA_tr (L := [some (zrv x0), some (zI x1), some (zI x2), some (zI x3), none, some (zI x5), none]) rfl rfl ?_
        refine zA_push rfl rfl zkk7 ?_
        exact zA_tr (L := [some (zrv x0), some (zI x1), some (zI x2), some (zI x3), none, some (zI x5), none]) rfl rfl (zmS203_51 hk4 _ _ _ _ _ _ _ _ _ H)
      · refine zA_brF (c := s0 = 0) rfl rfl rfl c36 ?_
        refine zA_aldn rfl rfl rfl ?_
        refine zA_ld rfl rfl rfl ?_
        refine zA_push rfl rfl zkk6 ?_
        rcases zb_e H with ⟨x38, h37, C, H⟩ | ⟨E, h37, C, H⟩
        · refine zA_callV (as := [zrv x0, zI x5, zI (-1 : Int32)]) (st' := []) rfl rfl rfl (zrcv_Q e24 c25) rfl (zmE148 _ _ _) rfl (zmS148 C) ?_
          rcases zite_e H with ⟨c39, H⟩ | ⟨c39, H⟩
          · refine zA_brT (c := x38 = 0) rfl rfl rfl c39 ?_
            refine zA_tr (L := [some (zrv x0), some (zI x1), some (zI x2), some (zI x3), none, some (zI x5), none]) rfl rfl ?_
            refine zA_push rfl rfl zkk7 ?_
            exact zA_tr (L := [some (zrv x0), some (zI x1), some (zI x2), some (zI x3), none, some (zI x5), none]) rfl rfl (zmS203_51 hk4 _ _ _ _ _ _ _ _ _ H)
          · refine zA_brF (c := x38 = 0) rfl rfl rfl c39 ?_
            refine zA_tr (L := [some (zrv x0), some (zI x1), some (zI x2), some (zI x3), none, some (zI x5), none]) rfl rfl ?_
            refine zA_push rfl rfl zkk5 ?_
            refine zA_go rfl rfl ?_
            exact zA_tr (L := [some (zrv x0), some (zI x1), some (zI x2), some (zI x3), none, some (zI x5), none]) rfl rfl (zmS203_51 hk4 _ _ _ _ _ _ _ _ _ H)
        · cases H
          exact zA_callX (as := [zrv x0, zI x5, zI (-1 : Int32)]) (st' := []) rfl rfl (zrcv_Q e24 c25) rfl (zmE148 _ _ _) rfl rfl rfl (zmS148 C)
    · refine zA_brT' (c := v33 = x1) rfl rfl rfl c35 ?_
      refine zA_tr (L := [some (zrv x0), some (zI x1), some (zI x2), some (zI x3), none, some (zI x5), none]) rfl rfl ?_
      refine zA_push rfl rfl zkk7 ?_
      exact zA_tr (L := [some (zrv x0), some (zI x1), some (zI x2), some (zI x3), none, some (zI x5), none]) rfl rfl (zmS203_51 hk4 _ _ _ _ _ _ _ _ _ H)
  · refine zA_brT' (c := x4 = 0) rfl rfl rfl c21 ?_
    refine zA_tr (L := [some (zrv x0), some (zI x1), some (zI x2), some (zI x3), none, some (zI x5), none]) rfl rfl ?_
    refine zA_push rfl rfl zkk5 ?_
    refine zA_go rfl rfl ?_
    exact zA_tr (L := [some (zrv x0), some (zI x1), some (zI x2), some (zI x3), none, some (zI x5), none]) rfl rfl (zmS203_51 hk4 _ _ _ _ _ _ _ _ _ H)
def zm203_4 : Nat → zq → Int32 → Int32 → Int32 → Int32 → Int32 → zH → zRs Int32
  | 0, _, _, _, _, _, _, _ => none
  | n + 1, x0, x1, x2, x3, x4, x5, h =>
    zob 12 x0 fun p21 i22 =>
    if (zi h p21 i22 2) ≤ x5 then
      zif (x4 = 0 ∨ x4 = 1) <|
      some (.inl x4, h)
    else
      if x3 = 0 then
        zri (zr h p21 i22 8) x5 h fun v35 =>
        if ((v35 >>> (x2 &&& 31)) &&& (1 : Int32)) = 0 then
          zm203_32 (zm203_4 n) x0 x1 x2 x3 x4 x5 (1 : Int32) h
        else
          zm203_32 (zm203_4 n) x0 x1 x2 x3 x4 x5 (0 : Int32) h
      else
        zri (zr h p21 i22 9) x5 h fun v45 =>
        if v45 = x2 then
          zm203_32 (zm203_4 n) x0 x1 x2 x3 x4 x5 (1 : Int32) h
        else
          zm203_32 (zm203_4 n) x0 x1 x2 x3 x4 x5 (0 : Int32) h
theorem zmS203_4 : ∀ (n : Nat) (x0 : zq) (x1 : Int32) (x2 : Int32) (x3 : Int32) (x4 : Int32) (x5 : Int32) (h : zH) (r : Int32 ⊕ Nat) (h' : zH), zm203_4 n x0 x1 x2 x3 x4 x5 h = some (r, h') → zAt 203 4 [some (zrv x0), some (zI x1), some (zI x2), some (zI x3), some (zI x4), some (zI x5), none] [] h (zoI r) h' := by
  intro n
  induction n with
  | zero => intro x0 x1 x2 x3 x4 x5 h r h' H; cases H
  | succ n ih =>
    intro x0 x1 x2 x3 x4 x5 h r h' H
    unfold zm203_4 at H
    refine zA_ld rfl rfl rfl ?_
    refine zA_aldn rfl rfl rfl ?_
    obtain ⟨p21, i22, e23, c24, H⟩ := zob_e H
    refine zA_gf0 rfl rfl (Or.inl rfl) e23 c24 ?_
    rcases zite_e H with ⟨c25, H⟩ | ⟨c25, H⟩
    · refine zA_brT (c := (zi h p21 i22 2) ≤ x5) rfl rfl rfl c25 ?_
      refine zA_tr (L := [none, none, none, none, some (zI x4), none, none]) rfl rfl ?_
      refine zA_ld rfl rfl rfl ?_
      obtain ⟨c26, H⟩ := zif_e H
      cases H
      exact zA_ret rfl (zret_Z c26)
    · refine zA_brF (c := (zi h p21 i22 2) ≤ x5) rfl rfl rfl c25 ?_
      refine zA_ldn rfl rfl rfl ?_
      rcases zite_e H with ⟨c27, H⟩ | ⟨c27, H⟩
      · refine zA_brT (c := x3 = 0) rfl rfl rfl c27 ?_
        refine zA_aldn rfl rfl rfl ?_
        refine zA_gf3 rfl rfl e23 c24 ?_
        refine zA_ld rfl rfl rfl ?_
        obtain ⟨p28, i29, j30, v35, e31, c32, c33, e34, e36, H⟩ := zri_e H
        refine zA_ial rfl rfl e31 c32 c33 e34 e36 ?_
        refine zA_ldn rfl rfl rfl ?_
        refine zA_st (st' := [zI (v35 >>> (x2 &&& 31))]) rfl rfl rfl rfl ?_
        refine zA_push rfl rfl zkk5 ?_
        refine zA_st (st' := [zI ((v35 >>> (x2 &&& 31)) &&& (1 : Int32))]) rfl rfl rfl rfl ?_
        rcases zite_e H with ⟨c37, H⟩ | ⟨c37, H⟩
        · refine zA_brF' (c := ((v35 >>> (x2 &&& 31)) &&& (1 : Int32)) = 0) rfl rfl rfl c37 ?_
          refine zA_push rfl rfl zkk5 ?_
          refine zA_go rfl rfl ?_
          exact zA_tr (L := [some (zrv x0), some (zI x1), some (zI x2), some (zI x3), some (zI x4), some (zI x5), none]) rfl rfl (zmS203_32 ih _ _ _ _ _ _ _ _ _ _ H)
        · refine zA_brT' (c := ((v35 >>> (x2 &&& 31)) &&& (1 : Int32)) = 0) rfl rfl rfl c37 ?_
          refine zA_push rfl rfl zkk7 ?_
          exact zA_tr (L := [some (zrv x0), some (zI x1), some (zI x2), some (zI x3), some (zI x4), some (zI x5), none]) rfl rfl (zmS203_32 ih _ _ _ _ _ _ _ _ _ _ H)
      · refine zA_brF (c := x3 = 0) rfl rfl rfl c27 ?_
        refine zA_aldn rfl rfl rfl ?_
        refine zA_gf3 rfl rfl e23 c24 ?_
        refine zA_ld rfl rfl rfl ?_
        obtain ⟨p38, i39, j40, v45, e41, c42, c43, e44, e46, H⟩ := zri_e H
        refine zA_ial rfl rfl e41 c42 c43 e44 e46 ?_
        refine zA_ldn rfl rfl rfl ?_
        rcases zite_e H with ⟨c47, H⟩ | ⟨c47, H⟩
        · refine zA_brF' (c := v45 = x2) rfl rfl rfl c47 ?_
          refine zA_push rfl rfl zkk5 ?_
          refine zA_go rfl rfl ?_
          exact zA_tr (L := [some (zrv x0), some (zI x1), some (zI x2), some (zI x3), some (zI x4), some (zI x5), none]) rfl rfl (zmS203_32 ih _ _ _ _ _ _ _ _ _ _ H)
        · refine zA_brT' (c := v45 = x2) rfl rfl rfl c47 ?_
          refine zA_push rfl rfl zkk7 ?_
          refine zA_go rfl rfl ?_
          exact zA_tr (L := [some (zrv x0), some (zI x1), some (zI x2), some (zI x3), some (zI x4), some (zI x5), none]) rfl rfl (zmS203_32 ih _ _ _ _ _ _ _ _ _ _ H)
-- 203: ReleaseHouseModel.hasLive(IIZ)Z
def zm203 (x0 : zq) (x1 : Int32) (x2 : Int32) (x3 : Int32) (h : zH) : zRs Int32 :=
  zm203_4 zN0 x0 x1 x2 x3 (0 : Int32) (0 : Int32) h
theorem zmS203 {x0 : zq} {x1 : Int32} {x2 : Int32} {x3 : Int32} {h : zH} {r : Int32 ⊕ Nat} {h' : zH} (H : zm203 x0 x1 x2 x3 h = some (r, h')) : zAt 203 0 [some (zrv x0), some (zI x1), some (zI x2), some (zI x3), none, none, none] [] h (zoI r) h' := by
  unfold zm203 at H
  refine zA_push rfl rfl zkk7 ?_
  refine zA_ist2 rfl rfl rfl (zset1 (L' := [some (zrv x0), some (zI x1), some (zI x2), some (zI x3), some (zI (0 : Int32)), none, none]) rfl rfl (zpcV rfl rfl)) ?_
  refine zA_push rfl rfl zkk7 ?_
  refine zA_ist2 rfl rfl rfl (zset1 (L' := [some (zrv x0), some (zI x1), some (zI x2), some (zI x3), some (zI (0 : Int32)), some (zI (0 : Int32)), none]) rfl rfl (zpcV rfl rfl)) ?_
  exact zA_tr (L := [some (zrv x0), some (zI x1), some (zI x2), some (zI x3), some (zI (0 : Int32)), some (zI (0 : Int32)), none]) rfl rfl (zmS203_4 zN0 _ _ _ _ _ _ _ _ _ H)
theorem zmE203 (x0 : zq) (x1 : Int32) (x2 : Int32) (x3 : Int32) : zpad (zPr.2.1 203).1 (zil [zrv x0, zI x1, zI x2, zI x3]) = [some (zrv x0), some (zI x1), some (zI x2), some (zI x3), none, none, none] := by
  simp only [zil_A, zil_I, zil_F, zil_D, zil_N]
  rfl
