set_option maxRecDepth 16384
/-! The methods read back (printed by wip/whole/gen/dec.py). -/
-- 110: ReleaseHouse.surge(II)I
def zm110 (x0 : zq) (x1 : Int32) (x2 : Int32) (h : zH) : zRs Int32 :=
  zb (zm131 x1 (0 : Int32) (2 : Int32) h) fun _ h21 =>
  zb (zm131 x2 (0 : Int32) (8 : Int32) h21) fun _ h22 =>
  zob 11 x0 fun p23 i24 =>
  zri (zr h22 p23 i24 9) x1 h22 fun v34 =>
  zar 1 (zr h22 p23 i24 9) x1 h22 fun p36 i37 j38 =>
  zlet (zsi h22 p36 i37 j38 x2) fun h43 =>
  some (.inl v34, h43)
theorem zmS110 {x0 : zq} {x1 : Int32} {x2 : Int32} {h : zH} {r : Int32 ⊕ Nat} {h' : zH} (H : zm110 x0 x1 x2 h = some (r, h')) : zAt 110 0 [some (zrv x0), some (zI x1), some (zI x2), none] [] h (zoI r) h' := by
  unfold zm110 at H
  refine zA_ldn rfl rfl rfl ?_
  refine zA_push rfl rfl zkk7 ?_
  refine zA_push rfl rfl zkk23 ?_
  rcases zb_e H with ⟨u46, h21, C, H⟩ | ⟨E, h21, C, H⟩
  · refine zA_callU (as := [zI x1, zI (0 : Int32), zI (2 : Int32)]) (st' := []) rfl rfl rfl rfl rfl (zmE131 _ _ _) rfl (zmS131 C) ?_
    refine zA_ldn rfl rfl rfl ?_
    refine zA_push rfl rfl zkk7 ?_
    refine zA_push rfl rfl zkk0 ?_
    rcases zb_e H with ⟨u45, h22, C, H⟩ | ⟨E, h22, C, H⟩
    · refine zA_callU (as := [zI x2, zI (0 : Int32), zI (8 : Int32)]) (st' := []) rfl rfl rfl rfl rfl (zmE131 _ _ _) rfl (zmS131 C) ?_
      refine zA_aldn rfl rfl rfl ?_
      obtain ⟨p23, i24, e25, c26, H⟩ := zob_e H
      refine zA_gf3 rfl rfl e25 c26 ?_
      refine zA_ldn rfl rfl rfl ?_
      obtain ⟨p27, i28, j29, v34, e30, c31, c32, e33, e35, H⟩ := zri_e H
      refine zA_ial rfl rfl e30 c31 c32 e33 e35 ?_
      refine zA_istn2 rfl rfl rfl (zset1 (L' := [some (zrv x0), some (zI x1), some (zI x2), some (zI v34)]) rfl rfl (zpcV rfl rfl)) ?_
      refine zA_aldn rfl rfl rfl ?_
      refine zA_gf3 rfl rfl e25 c26 ?_
      refine zA_ldn rfl rfl rfl ?_
      refine zA_ldn rfl rfl rfl ?_
      obtain ⟨p36, i37, j38, e39, c40, c41, e42, H⟩ := zar_e H
      obtain ⟨h43, e44, H⟩ := zlet_e H
      refine zA_ias rfl rfl e39 c40 c41 e42 e44 ?_
      refine zA_ldn rfl rfl rfl ?_
      cases H
      exact zA_ret rfl rfl
    · cases H
      exact zA_callX (as := [zI x2, zI (0 : Int32), zI (8 : Int32)]) (st' := []) rfl rfl rfl rfl (zmE131 _ _ _) rfl rfl rfl (zmS131 C)
  · cases H
    exact zA_callX (as := [zI x1, zI (0 : Int32), zI (2 : Int32)]) (st' := []) rfl rfl rfl rfl (zmE131 _ _ _) rfl rfl rfl (zmS131 C)
theorem zmE110 (x0 : zq) (x1 : Int32) (x2 : Int32) : zpad (zPr.2.1 110).1 (zil [zrv x0, zI x1, zI x2]) = [some (zrv x0), some (zI x1), some (zI x2), none] := by
  simp only [zil_A, zil_I, zil_F, zil_D, zil_N]
  rfl
-- 278: ReleaseHouseLaw.surge(LReleaseHouse;II[J)I
def zm278 (x0 : zq) (x1 : Int32) (x2 : Int32) (x3 : zq) (h : zH) : zRs Int32 :=
  zob 11 x0 fun p21 i22 =>
  zbH [(0, 8, 0, 1)] 5 (zm110 x0 x1 x2 h) fun x26 h25 =>
  zar 3 x3 (0 : Int32) h25 fun p27 i28 j29 =>
  zlet (zsl h25 p27 i28 j29 (x26.toInt64)) fun h34 =>
  some (.inl (0 : Int32), h34)
theorem zmS278 {x0 : zq} {x1 : Int32} {x2 : Int32} {x3 : zq} {h : zH} {r : Int32 ⊕ Nat} {h' : zH} (H : zm278 x0 x1 x2 x3 h = some (r, h')) : zAt 278 0 [some (zrv x0), some (zI x1), some (zI x2), some (zrv x3), none] [] h (zoI r) h' := by
  unfold zm278 at H
  refine zA_aldn rfl rfl rfl ?_
  refine zA_push rfl rfl zkk7 ?_
  refine zA_aldn rfl rfl rfl ?_
  refine zA_ldn rfl rfl rfl ?_
  refine zA_ldn rfl rfl rfl ?_
  obtain ⟨p21, i22, e23, c24, H⟩ := zob_e H
  rcases zbH_e H with ⟨x26, h25, C, H⟩ | ⟨E, h25, c36, C, hc, H⟩
  · refine zA_callV (as := [zrv x0, zI x1, zI x2]) (st' := [zI (0 : Int32), zrv x3]) rfl rfl rfl (zrcv_Q e23 c24) rfl (zmE110 _ _ _) rfl (zmS110 C) ?_
    refine zA_st (st' := [zJ (x26.toInt64), zI (0 : Int32), zrv x3]) rfl rfl rfl rfl ?_
    obtain ⟨p27, i28, j29, e30, c31, c32, e33, H⟩ := zar_e H
    obtain ⟨h34, e35, H⟩ := zlet_e H
    refine zA_las rfl rfl e30 c31 c32 e33 e35 ?_
    refine zA_go rfl rfl ?_
    refine zA_tr (L := [none, none, none, none, none]) rfl rfl ?_
    refine zA_push rfl rfl zkk7 ?_
    cases H
    exact zA_ret rfl rfl
  · cases H
    exact zA_callH (as := [zrv x0, zI x1, zI x2]) (st' := [zI (0 : Int32), zrv x3]) rfl rfl (zrcv_Q e23 c24) rfl (zmE110 _ _ _) rfl rfl rfl (List.cons_ne_nil _ _) hc (zmS110 C)
theorem zmE278 (x0 : zq) (x1 : Int32) (x2 : Int32) (x3 : zq) : zpad (zPr.2.1 278).1 (zil [zrv x0, zI x1, zI x2, zrv x3]) = [some (zrv x0), some (zI x1), some (zI x2), some (zrv x3), none] := by
  simp only [zil_A, zil_I, zil_F, zil_D, zil_N]
  rfl
def zm223_12 (x0 : zq) (x1 : Int32) (x2 : Int32) (s0 : zq) (s1 : Int32) (h : zH) : zRs Int32 :=
  zob 12 s0 fun p21 i22 =>
  zlet (zsi h p21 i22 0 s1) fun h25 =>
  zob 12 x0 fun p27 i28 =>
  if (zi h25 p27 i28 0) ≤ 0 then
    zri (zr h25 p27 i28 57) x1 h25 fun v39 =>
    zar 1 (zr h25 p27 i28 57) x1 h25 fun p41 i42 j43 =>
    zlet (zsi h25 p41 i42 j43 x2) fun h48 =>
    some (.inl v39, h48)
  else
    some (.inl (0 : Int32), h25)
theorem zmS223_12 : ∀ (x0 : zq) (x1 : Int32) (x2 : Int32) (s0 : zq) (s1 : Int32) (h : zH) (r : Int32 ⊕ Nat) (h' : zH), zm223_12 x0 x1 x2 s0 s1 h = some (r, h') → zAt 223 12 [some (zrv x0), some (zI x1), some (zI x2), none] [zI s1, zrv s0] h (zoI r) h' := by
  intro x0 x1 x2 s0 s1 h r h' H
  unfold zm223_12 at H
  obtain ⟨p21, i22, e23, c24, H⟩ := zob_e H
  obtain ⟨h25, e26, H⟩ := zlet_e H
  refine zA_pf0 rfl rfl e23 c24 e26 ?_
  refine zA_aldn rfl rfl rfl ?_
  obtain ⟨p27, i28, e29, c30, H⟩ := zob_e H
  refine zA_gf0 rfl rfl (Or.inl rfl) e29 c30 ?_
  rcases zite_e H with ⟨c31, H⟩ | ⟨c31, H⟩
  · refine zA_brT (c := (zi h25 p27 i28 0) ≤ 0) rfl rfl rfl c31 ?_
    refine zA_aldn rfl rfl rfl ?_
    refine zA_gf3 rfl rfl e29 c30 ?_
    refine zA_ldn rfl rfl rfl ?_
    obtain ⟨p32, i33, j34, v39, e35, c36, c37, e38, e40, H⟩ := zri_e H
    refine zA_ial rfl rfl e35 c36 c37 e38 e40 ?_
    refine zA_istn2 rfl rfl rfl (zset1 (L' := [some (zrv x0), some (zI x1), some (zI x2), some (zI v39)]) rfl rfl (zpcV rfl rfl)) ?_
    refine zA_aldn rfl rfl rfl ?_
    refine zA_gf3 rfl rfl e29 c30 ?_
    refine zA_ldn rfl rfl rfl ?_
    refine zA_ldn rfl rfl rfl ?_
    obtain ⟨p41, i42, j43, e44, c45, c46, e47, H⟩ := zar_e H
    obtain ⟨h48, e49, H⟩ := zlet_e H
    refine zA_ias rfl rfl e44 c45 c46 e47 e49 ?_
    refine zA_ldn rfl rfl rfl ?_
    cases H
    exact zA_ret rfl rfl
  · refine zA_brF (c := (zi h25 p27 i28 0) ≤ 0) rfl rfl rfl c31 ?_
    refine zA_push rfl rfl zkk7 ?_
    cases H
    exact zA_ret rfl rfl
-- 223: ReleaseHouseModel.surge(II)I
def zm223 (x0 : zq) (x1 : Int32) (x2 : Int32) (h : zH) : zRs Int32 :=
  zb (zm141 x1 h) fun x22 h21 =>
  if x22 = 0 then
    zm223_12 x0 x1 x2 x0 (1 : Int32) h21
  else
    zb (zm139 x2 (0 : Int32) (8 : Int32) h21) fun x25 h24 =>
    if x25 = 0 then
      zm223_12 x0 x1 x2 x0 (1 : Int32) h24
    else
      zm223_12 x0 x1 x2 x0 (0 : Int32) h24
theorem zmS223 {x0 : zq} {x1 : Int32} {x2 : Int32} {h : zH} {r : Int32 ⊕ Nat} {h' : zH} (H : zm223 x0 x1 x2 h = some (r, h')) : zAt 223 0 [some (zrv x0), some (zI x1), some (zI x2), none] [] h (zoI r) h' := by
  unfold zm223 at H
  refine zA_aldn rfl rfl rfl ?_
  refine zA_ldn rfl rfl rfl ?_
  rcases zb_e H with ⟨x22, h21, C, H⟩ | ⟨E, h21, C, H⟩
  · refine zA_callV (as := [zI x1]) (st' := [zrv x0]) rfl rfl rfl rfl rfl (zmE141 _) rfl (zmS141 C) ?_
    rcases zite_e H with ⟨c23, H⟩ | ⟨c23, H⟩
    · refine zA_brT (c := x22 = 0) rfl rfl rfl c23 ?_
      refine zA_push rfl rfl zkk5 ?_
      exact zA_tr (L := [some (zrv x0), some (zI x1), some (zI x2), none]) rfl rfl (zmS223_12 _ _ _ _ _ _ _ _ H)
    · refine zA_brF (c := x22 = 0) rfl rfl rfl c23 ?_
      refine zA_ldn rfl rfl rfl ?_
      refine zA_push rfl rfl zkk7 ?_
      refine zA_push rfl rfl zkk0 ?_
      rcases zb_e H with ⟨x25, h24, C, H⟩ | ⟨E, h24, C, H⟩
      · refine zA_callV (as := [zI x2, zI (0 : Int32), zI (8 : Int32)]) (st' := [zrv x0]) rfl rfl rfl rfl rfl (zmE139 _ _ _) rfl (zmS139 C) ?_
        rcases zite_e H with ⟨c26, H⟩ | ⟨c26, H⟩
        · refine zA_brT (c := x25 = 0) rfl rfl rfl c26 ?_
          refine zA_push rfl rfl zkk5 ?_
          exact zA_tr (L := [some (zrv x0), some (zI x1), some (zI x2), none]) rfl rfl (zmS223_12 _ _ _ _ _ _ _ _ H)
        · refine zA_brF (c := x25 = 0) rfl rfl rfl c26 ?_
          refine zA_push rfl rfl zkk7 ?_
          refine zA_go rfl rfl ?_
          exact zA_tr (L := [some (zrv x0), some (zI x1), some (zI x2), none]) rfl rfl (zmS223_12 _ _ _ _ _ _ _ _ H)
      · cases H
        exact zA_callX (as := [zI x2, zI (0 : Int32), zI (8 : Int32)]) (st' := [zrv x0]) rfl rfl rfl rfl (zmE139 _ _ _) rfl rfl rfl (zmS139 C)
  · cases H
    exact zA_callX (as := [zI x1]) (st' := [zrv x0]) rfl rfl rfl rfl (zmE141 _) rfl rfl rfl (zmS141 C)
theorem zmE223 (x0 : zq) (x1 : Int32) (x2 : Int32) : zpad (zPr.2.1 223).1 (zil [zrv x0, zI x1, zI x2]) = [some (zrv x0), some (zI x1), some (zI x2), none] := by
  simp only [zil_A, zil_I, zil_F, zil_D, zil_N]
  rfl
-- 111: ReleaseHouse.left(I)I
def zm111 (x0 : zq) (x1 : Int32) (h : zH) : zRs Int32 :=
  zb (zm131 x1 (0 : Int32) (2 : Int32) h) fun _ h21 =>
  zob 11 x0 fun p22 i23 =>
  zb (zm71 x0 x1 h21) fun x27 h26 =>
  zb (zm69 x0 x1 h26) fun x29 h28 =>
  some (.inl (x27 - x29), h28)
theorem zmS111 {x0 : zq} {x1 : Int32} {h : zH} {r : Int32 ⊕ Nat} {h' : zH} (H : zm111 x0 x1 h = some (r, h')) : zAt 111 0 [some (zrv x0), some (zI x1)] [] h (zoI r) h' := by
  unfold zm111 at H
  refine zA_ldn rfl rfl rfl ?_
  refine zA_push rfl rfl zkk7 ?_
  refine zA_push rfl rfl zkk23 ?_
  rcases zb_e H with ⟨u30, h21, C, H⟩ | ⟨E, h21, C, H⟩
  · refine zA_callU (as := [zI x1, zI (0 : Int32), zI (2 : Int32)]) (st' := []) rfl rfl rfl rfl rfl (zmE131 _ _ _) rfl (zmS131 C) ?_
    refine zA_aldn rfl rfl rfl ?_
    refine zA_ldn rfl rfl rfl ?_
    obtain ⟨p22, i23, e24, c25, H⟩ := zob_e H
    rcases zb_e H with ⟨x27, h26, C, H⟩ | ⟨E, h26, C, H⟩
    · refine zA_callV (as := [zrv x0, zI x1]) (st' := []) rfl rfl rfl (zrcv_Q e24 c25) rfl (zmE71 _ _) rfl (zmS71 C) ?_
      refine zA_aldn rfl rfl rfl ?_
      refine zA_ldn rfl rfl rfl ?_
      rcases zb_e H with ⟨x29, h28, C, H⟩ | ⟨E, h28, C, H⟩
      · refine zA_callV (as := [zrv x0, zI x1]) (st' := [zI x27]) rfl rfl rfl (zrcv_Q e24 c25) rfl (zmE69 _ _) rfl (zmS69 C) ?_
        refine zA_st (st' := [zI (x27 - x29)]) rfl rfl rfl rfl ?_
        cases H
        exact zA_ret rfl rfl
      · cases H
        exact zA_callX (as := [zrv x0, zI x1]) (st' := [zI x27]) rfl rfl (zrcv_Q e24 c25) rfl (zmE69 _ _) rfl rfl rfl (zmS69 C)
    · cases H
      exact zA_callX (as := [zrv x0, zI x1]) (st' := []) rfl rfl (zrcv_Q e24 c25) rfl (zmE71 _ _) rfl rfl rfl (zmS71 C)
  · cases H
    exact zA_callX (as := [zI x1, zI (0 : Int32), zI (2 : Int32)]) (st' := []) rfl rfl rfl rfl (zmE131 _ _ _) rfl rfl rfl (zmS131 C)
theorem zmE111 (x0 : zq) (x1 : Int32) : zpad (zPr.2.1 111).1 (zil [zrv x0, zI x1]) = [some (zrv x0), some (zI x1)] := by
  simp only [zil_A, zil_I, zil_F, zil_D, zil_N]
  rfl
-- 279: ReleaseHouseLaw.left(LReleaseHouse;I[J)I
def zm279 (x0 : zq) (x1 : Int32) (x2 : zq) (h : zH) : zRs Int32 :=
  zob 11 x0 fun p21 i22 =>
  zbH [(0, 7, 0, 1)] 4 (zm111 x0 x1 h) fun x26 h25 =>
  zar 3 x2 (0 : Int32) h25 fun p27 i28 j29 =>
  zlet (zsl h25 p27 i28 j29 (x26.toInt64)) fun h34 =>
  some (.inl (0 : Int32), h34)
theorem zmS279 {x0 : zq} {x1 : Int32} {x2 : zq} {h : zH} {r : Int32 ⊕ Nat} {h' : zH} (H : zm279 x0 x1 x2 h = some (r, h')) : zAt 279 0 [some (zrv x0), some (zI x1), some (zrv x2), none] [] h (zoI r) h' := by
  unfold zm279 at H
  refine zA_aldn rfl rfl rfl ?_
  refine zA_push rfl rfl zkk7 ?_
  refine zA_aldn rfl rfl rfl ?_
  refine zA_ldn rfl rfl rfl ?_
  obtain ⟨p21, i22, e23, c24, H⟩ := zob_e H
  rcases zbH_e H with ⟨x26, h25, C, H⟩ | ⟨E, h25, c36, C, hc, H⟩
  · refine zA_callV (as := [zrv x0, zI x1]) (st' := [zI (0 : Int32), zrv x2]) rfl rfl rfl (zrcv_Q e23 c24) rfl (zmE111 _ _) rfl (zmS111 C) ?_
    refine zA_st (st' := [zJ (x26.toInt64), zI (0 : Int32), zrv x2]) rfl rfl rfl rfl ?_
    obtain ⟨p27, i28, j29, e30, c31, c32, e33, H⟩ := zar_e H
    obtain ⟨h34, e35, H⟩ := zlet_e H
    refine zA_las rfl rfl e30 c31 c32 e33 e35 ?_
    refine zA_go rfl rfl ?_
    refine zA_tr (L := [none, none, none, none]) rfl rfl ?_
    refine zA_push rfl rfl zkk7 ?_
    cases H
    exact zA_ret rfl rfl
  · cases H
    exact zA_callH (as := [zrv x0, zI x1]) (st' := [zI (0 : Int32), zrv x2]) rfl rfl (zrcv_Q e23 c24) rfl (zmE111 _ _) rfl rfl rfl (List.cons_ne_nil _ _) hc (zmS111 C)
theorem zmE279 (x0 : zq) (x1 : Int32) (x2 : zq) : zpad (zPr.2.1 279).1 (zil [zrv x0, zI x1, zrv x2]) = [some (zrv x0), some (zI x1), some (zrv x2), none] := by
  simp only [zil_A, zil_I, zil_F, zil_D, zil_N]
  rfl
def zm224_7 (x0 : zq) (x1 : Int32) (s0 : zq) (s1 : Int32) (h : zH) : zRs Int32 :=
  zob 12 s0 fun p21 i22 =>
  zlet (zsi h p21 i22 0 s1) fun h25 =>
  zob 12 x0 fun p27 i28 =>
  if (zi h25 p27 i28 0) ≤ 0 then
    zb (zm165 x0 x1 h25) fun x33 h32 =>
    zb (zm167 x0 x1 h32) fun x35 h34 =>
    some (.inl (x33 - x35), h34)
  else
    some (.inl (0 : Int32), h25)
theorem zmS224_7 : ∀ (x0 : zq) (x1 : Int32) (s0 : zq) (s1 : Int32) (h : zH) (r : Int32 ⊕ Nat) (h' : zH), zm224_7 x0 x1 s0 s1 h = some (r, h') → zAt 224 7 [some (zrv x0), some (zI x1)] [zI s1, zrv s0] h (zoI r) h' := by
  intro x0 x1 s0 s1 h r h' H
  unfold zm224_7 at H
  obtain ⟨p21, i22, e23, c24, H⟩ := zob_e H
  obtain ⟨h25, e26, H⟩ := zlet_e H
  refine zA_pf0 rfl rfl e23 c24 e26 ?_
  refine zA_aldn rfl rfl rfl ?_
  obtain ⟨p27, i28, e29, c30, H⟩ := zob_e H
  refine zA_gf0 rfl rfl (Or.inl rfl) e29 c30 ?_
  rcases zite_e H with ⟨c31, H⟩ | ⟨c31, H⟩
  · refine zA_brT (c := (zi h25 p27 i28 0) ≤ 0) rfl rfl rfl c31 ?_
    refine zA_aldn rfl rfl rfl ?_
    refine zA_ldn rfl rfl rfl ?_
    rcases zb_e H with ⟨x33, h32, C, H⟩ | ⟨E, h32, C, H⟩
    · refine zA_callV (as := [zrv x0, zI x1]) (st' := []) rfl rfl rfl (zrcv_Q e29 c30) rfl (zmE165 _ _) rfl (zmS165 C) ?_
      refine zA_aldn rfl rfl rfl ?_
      refine zA_ldn rfl rfl rfl ?_
      rcases zb_e H with ⟨x35, h34, C, H⟩ | ⟨E, h34, C, H⟩
      · refine zA_callV (as := [zrv x0, zI x1]) (st' := [zI x33]) rfl rfl rfl (zrcv_Q e29 c30) rfl (zmE167 _ _) rfl (zmS167 C) ?_
        refine zA_st (st' := [zI (x33 - x35)]) rfl rfl rfl rfl ?_
        refine zA_tr (L := [none, none]) rfl rfl ?_
        cases H
        exact zA_ret rfl rfl
      · cases H
        exact zA_callX (as := [zrv x0, zI x1]) (st' := [zI x33]) rfl rfl (zrcv_Q e29 c30) rfl (zmE167 _ _) rfl rfl rfl (zmS167 C)
    · cases H
      exact zA_callX (as := [zrv x0, zI x1]) (st' := []) rfl rfl (zrcv_Q e29 c30) rfl (zmE165 _ _) rfl rfl rfl (zmS165 C)
  · refine zA_brF (c := (zi h25 p27 i28 0) ≤ 0) rfl rfl rfl c31 ?_
    refine zA_push rfl rfl zkk7 ?_
    refine zA_go rfl rfl ?_
    refine zA_tr (L := [none, none]) rfl rfl ?_
    cases H
    exact zA_ret rfl rfl
-- 224: ReleaseHouseModel.left(I)I
def zm224 (x0 : zq) (x1 : Int32) (h : zH) : zRs Int32 :=
  zb (zm141 x1 h) fun x22 h21 =>
  if x22 = 0 then
    zm224_7 x0 x1 x0 (1 : Int32) h21
  else
    zm224_7 x0 x1 x0 (0 : Int32) h21
theorem zmS224 {x0 : zq} {x1 : Int32} {h : zH} {r : Int32 ⊕ Nat} {h' : zH} (H : zm224 x0 x1 h = some (r, h')) : zAt 224 0 [some (zrv x0), some (zI x1)] [] h (zoI r) h' := by
  unfold zm224 at H
  refine zA_aldn rfl rfl rfl ?_
  refine zA_ldn rfl rfl rfl ?_
  rcases zb_e H with ⟨x22, h21, C, H⟩ | ⟨E, h21, C, H⟩
  · refine zA_callV (as := [zI x1]) (st' := [zrv x0]) rfl rfl rfl rfl rfl (zmE141 _) rfl (zmS141 C) ?_
    rcases zite_e H with ⟨c23, H⟩ | ⟨c23, H⟩
    · refine zA_brT (c := x22 = 0) rfl rfl rfl c23 ?_
      refine zA_push rfl rfl zkk5 ?_
      exact zA_tr (L := [some (zrv x0), some (zI x1)]) rfl rfl (zmS224_7 _ _ _ _ _ _ _ H)
    · refine zA_brF (c := x22 = 0) rfl rfl rfl c23 ?_
      refine zA_push rfl rfl zkk7 ?_
      refine zA_go rfl rfl ?_
      exact zA_tr (L := [some (zrv x0), some (zI x1)]) rfl rfl (zmS224_7 _ _ _ _ _ _ _ H)
  · cases H
    exact zA_callX (as := [zI x1]) (st' := [zrv x0]) rfl rfl rfl rfl (zmE141 _) rfl rfl rfl (zmS141 C)
theorem zmE224 (x0 : zq) (x1 : Int32) : zpad (zPr.2.1 224).1 (zil [zrv x0, zI x1]) = [some (zrv x0), some (zI x1)] := by
  simp only [zil_A, zil_I, zil_F, zil_D, zil_N]
  rfl
-- 38: ReleaseHouse$Train.<init>(I)V
def zm38 (x0 : zq) (x1 : Int32) (h : zH) : zRs Unit :=
  znn x0 fun p21 i22 =>
  zob 10 x0 fun p25 i26 =>
  zlet (zsi h p25 i26 1 (-1 : Int32)) fun h29 =>
  zlet (zsi h29 p25 i26 0 x1) fun h31 =>
  some (.inl (), h31)
theorem zmS38 {x0 : zq} {x1 : Int32} {h : zH} {r : Unit ⊕ Nat} {h' : zH} (H : zm38 x0 x1 h = some (r, h')) : zAt 38 0 [some (zrv x0), some (zI x1)] [] h (zoU r) h' := by
  unfold zm38 at H
  refine zA_aldn rfl rfl rfl ?_
  obtain ⟨p21, i22, e23, H⟩ := znn_e H
  refine zA_l0 rfl rfl rfl e23 ?_
  refine zA_aldn rfl rfl rfl ?_
  refine zA_push rfl rfl zkk6 ?_
  obtain ⟨p25, i26, e27, c28, H⟩ := zob_e H
  obtain ⟨h29, e30, H⟩ := zlet_e H
  refine zA_pf0 rfl rfl e27 c28 e30 ?_
  refine zA_aldn rfl rfl rfl ?_
  refine zA_ldn rfl rfl rfl ?_
  obtain ⟨h31, e32, H⟩ := zlet_e H
  refine zA_pf0 rfl rfl e27 c28 e32 ?_
  cases H
  exact zA_ret rfl rfl
theorem zmE38 (x0 : zq) (x1 : Int32) : zpad (zPr.2.1 38).1 (zil [zrv x0, zI x1]) = [some (zrv x0), some (zI x1)] := by
  simp only [zil_A, zil_I, zil_F, zil_D, zil_N]
  rfl
-- 112: ReleaseHouse.train(I)I
def zm112 (x0 : zq) (x1 : Int32) (h : zH) : zRs Int32 :=
  zob 11 x0 fun p21 i22 =>
  if x1 ≤ (zi h p21 i22 11) then
    some (.inr 0, zro h 1 6)
  else
    if x1 ≤ (20000 : Int32) then
      zlz (zr h p21 i22 4) h fun v32 =>
      if v32 < (6 : Int32) then
        zlet (znw h 11 0 2) fun h35 =>
        zob 10 (some (11, zct h 11)) fun p37 i38 =>
        zb2 (zm38 (some (11, zct h 11)) x1 h35) fun _ h41 =>
        znn (zr h p21 i22 4) fun p42 i43 =>
        znn (some (11, zct h 11)) fun p49 i50 =>
        zif ((ztg p42 == 9 && ztg p49 == 0 && (zkc p49 == zel p42 && zelB h41 p42 i43)) = true) <|
        zif (zi h41 p42 i43 1 = 1 ∧ zln h41 p42 i43 < 33) <|
        zlet (zladd h41 p42 i43 p49 i50) fun h47 =>
        zlz (zr h47 p21 i22 4) h47 fun v57 =>
        some (.inl (v57 - (1 : Int32)), h47)
      else
        some (.inr 1, zro h 1 6)
    else
      some (.inr 0, zro h 1 6)
theorem zmS112 {x0 : zq} {x1 : Int32} {h : zH} {r : Int32 ⊕ Nat} {h' : zH} (H : zm112 x0 x1 h = some (r, h')) : zAt 112 0 [some (zrv x0), some (zI x1)] [] h (zoI r) h' := by
  unfold zm112 at H
  refine zA_ldn rfl rfl rfl ?_
  refine zA_aldn rfl rfl rfl ?_
  obtain ⟨p21, i22, e23, c24, H⟩ := zob_e H
  refine zA_gf0 rfl rfl (Or.inl rfl) e23 c24 ?_
  rcases zite_e H with ⟨c25, H⟩ | ⟨c25, H⟩
  · refine zA_brT (c := x1 ≤ (zi h p21 i22 11)) rfl rfl rfl c25 ?_
    refine zA_tr (L := [none, none]) rfl rfl ?_
    cases H
    exact zA_thr rfl rfl
  · refine zA_brF (c := x1 ≤ (zi h p21 i22 11)) rfl rfl rfl c25 ?_
    refine zA_ldn rfl rfl rfl ?_
    refine zA_push rfl rfl zkk46 ?_
    rcases zite_e H with ⟨c26, H⟩ | ⟨c26, H⟩
    · refine zA_brT (c := x1 ≤ (20000 : Int32)) rfl rfl rfl c26 ?_
      refine zA_aldn rfl rfl rfl ?_
      refine zA_gf3 rfl rfl e23 c24 ?_
      obtain ⟨p27, i28, v32, e29, c30, c31, e33, H⟩ := zlz_e H
      refine zA_l2 rfl rfl rfl e29 c30 c31 e33 ?_
      refine zA_push rfl rfl zkk14 ?_
      rcases zite_e H with ⟨c34, H⟩ | ⟨c34, H⟩
      · refine zA_brT (c := v32 < (6 : Int32)) rfl rfl rfl c34 ?_
        refine zA_aldn rfl rfl rfl ?_
        refine zA_gf3 rfl rfl e23 c24 ?_
        obtain ⟨h35, e36, H⟩ := zlet_e H
        refine zA_new (n := 2) rfl rfl (fun _ _ _ _ => rfl) e36 ?_
        refine zA_dup rfl rfl (zcat_rv _) ?_
        refine zA_ldn rfl rfl rfl ?_
        obtain ⟨p37, i38, e39, c40, H⟩ := zob_e H
        obtain ⟨u59, h41, C, H⟩ := zb2_e H
        refine zA_callU (as := [zrv (some (11, zct h 11)), zI x1]) (st' := [zrv (some (11, zct h 11)), zrv (zr h p21 i22 4)]) rfl rfl rfl (zrcv_Q e39 c40) rfl (zmE38 _ _) rfl (zmS38 C) ?_
        obtain ⟨p42, i43, e44, H⟩ := znn_e H
        obtain ⟨p49, i50, e51, H⟩ := znn_e H
        obtain ⟨c45, H⟩ := zif_e H
        obtain ⟨c46, H⟩ := zif_e H
        obtain ⟨h47, e48, H⟩ := zlet_e H
        refine zA_l4 rfl rfl rfl e44 e51 c45 c46 e48 ?_
        refine zA_pop rfl rfl rfl ?_
        refine zA_aldn rfl rfl rfl ?_
        refine zA_gf3 rfl rfl e23 c24 ?_
        obtain ⟨p52, i53, v57, e54, c55, c56, e58, H⟩ := zlz_e H
        refine zA_l2 rfl rfl rfl e54 c55 c56 e58 ?_
        refine zA_push rfl rfl zkk5 ?_
        refine zA_st (st' := [zI (v57 - (1 : Int32))]) rfl rfl rfl rfl ?_
        cases H
        exact zA_ret rfl rfl
      · refine zA_brF (c := v32 < (6 : Int32)) rfl rfl rfl c34 ?_
        cases H
        exact zA_thr rfl rfl
    · refine zA_brF (c := x1 ≤ (20000 : Int32)) rfl rfl rfl c26 ?_
      refine zA_tr (L := [none, none]) rfl rfl ?_
      cases H
      exact zA_thr rfl rfl
theorem zmE112 (x0 : zq) (x1 : Int32) : zpad (zPr.2.1 112).1 (zil [zrv x0, zI x1]) = [some (zrv x0), some (zI x1)] := by
  simp only [zil_A, zil_I, zil_F, zil_D, zil_N]
  rfl
-- 280: ReleaseHouseLaw.train(LReleaseHouse;I[J)I
def zm280 (x0 : zq) (x1 : Int32) (x2 : zq) (h : zH) : zRs Int32 :=
  zob 11 x0 fun p21 i22 =>
  zbH [(0, 7, 0, 1), (0, 7, 1, 2)] 4 (zm112 x0 x1 h) fun x26 h25 =>
  zar 3 x2 (0 : Int32) h25 fun p27 i28 j29 =>
  zlet (zsl h25 p27 i28 j29 (x26.toInt64)) fun h34 =>
  some (.inl (0 : Int32), h34)
theorem zmS280 {x0 : zq} {x1 : Int32} {x2 : zq} {h : zH} {r : Int32 ⊕ Nat} {h' : zH} (H : zm280 x0 x1 x2 h = some (r, h')) : zAt 280 0 [some (zrv x0), some (zI x1), some (zrv x2), none] [] h (zoI r) h' := by
  unfold zm280 at H
  refine zA_aldn rfl rfl rfl ?_
  refine zA_push rfl rfl zkk7 ?_
  refine zA_aldn rfl rfl rfl ?_
  refine zA_ldn rfl rfl rfl ?_
  obtain ⟨p21, i22, e23, c24, H⟩ := zob_e H
  rcases zbH_e H with ⟨x26, h25, C, H⟩ | ⟨E, h25, c36, C, hc, H⟩
  · refine zA_callV (as := [zrv x0, zI x1]) (st' := [zI (0 : Int32), zrv x2]) rfl rfl rfl (zrcv_Q e23 c24) rfl (zmE112 _ _) rfl (zmS112 C) ?_
    refine zA_st (st' := [zJ (x26.toInt64), zI (0 : Int32), zrv x2]) rfl rfl rfl rfl ?_
    obtain ⟨p27, i28, j29, e30, c31, c32, e33, H⟩ := zar_e H
    obtain ⟨h34, e35, H⟩ := zlet_e H
    refine zA_las rfl rfl e30 c31 c32 e33 e35 ?_
    refine zA_go rfl rfl ?_
    refine zA_tr (L := [none, none, none, none]) rfl rfl ?_
    refine zA_push rfl rfl zkk7 ?_
    cases H
    exact zA_ret rfl rfl
  · cases H
    exact zA_callH (as := [zrv x0, zI x1]) (st' := [zI (0 : Int32), zrv x2]) rfl rfl (zrcv_Q e23 c24) rfl (zmE112 _ _) rfl rfl rfl (List.cons_ne_nil _ _) hc (zmS112 C)
theorem zmE280 (x0 : zq) (x1 : Int32) (x2 : zq) : zpad (zPr.2.1 280).1 (zil [zrv x0, zI x1, zrv x2]) = [some (zrv x0), some (zI x1), some (zrv x2), none] := by
  simp only [zil_A, zil_I, zil_F, zil_D, zil_N]
  rfl
def zm225_18 (x0 : zq) (x1 : Int32) (s0 : zq) (s1 : Int32) (h : zH) : zRs Int32 :=
  zob 12 s0 fun p21 i22 =>
  zlet (zsi h p21 i22 0 s1) fun h25 =>
  zob 12 x0 fun p27 i28 =>
  if (zi h25 p27 i28 0) ≤ 0 then
    zar 1 (zr h25 p27 i28 59) (zi h25 p27 i28 58) h25 fun p32 i33 j34 =>
    zlet (zsi h25 p32 i33 j34 x1) fun h39 =>
    zar 1 (zr h39 p27 i28 60) (zi h39 p27 i28 58) h39 fun p41 i42 j43 =>
    zlet (zsi h39 p41 i42 j43 (-1 : Int32)) fun h48 =>
    zlet (zsi h48 p27 i28 58 ((zi h48 p27 i28 58) + (1 : Int32))) fun h50 =>
    some (.inl ((zi h50 p27 i28 58) - (1 : Int32)), h50)
  else
    some (.inl (0 : Int32), h25)
theorem zmS225_18 : ∀ (x0 : zq) (x1 : Int32) (s0 : zq) (s1 : Int32) (h : zH) (r : Int32 ⊕ Nat) (h' : zH), zm225_18 x0 x1 s0 s1 h = some (r, h') → zAt 225 18 [some (zrv x0), some (zI x1)] [zI s1, zrv s0] h (zoI r) h' := by
  intro x0 x1 s0 s1 h r h' H
  unfold zm225_18 at H
  obtain ⟨p21, i22, e23, c24, H⟩ := zob_e H
  obtain ⟨h25, e26, H⟩ := zlet_e H
  refine zA_pf0 rfl rfl e23 c24 e26 ?_
  refine zA_aldn rfl rfl rfl ?_
  obtain ⟨p27, i28, e29, c30, H⟩ := zob_e H
  refine zA_gf0 rfl rfl (Or.inl rfl) e29 c30 ?_
  rcases zite_e H with ⟨c31, H⟩ | ⟨c31, H⟩
  · refine zA_brT (c := (zi h25 p27 i28 0) ≤ 0) rfl rfl rfl c31 ?_
    refine zA_aldn rfl rfl rfl ?_
    refine zA_gf3 rfl rfl e29 c30 ?_
    refine zA_aldn rfl rfl rfl ?_
    refine zA_gf0 rfl rfl (Or.inl rfl) e29 c30 ?_
    refine zA_ldn rfl rfl rfl ?_
    obtain ⟨p32, i33, j34, e35, c36, c37, e38, H⟩ := zar_e H
    obtain ⟨h39, e40, H⟩ := zlet_e H
    refine zA_ias rfl rfl e35 c36 c37 e38 e40 ?_
    refine zA_aldn rfl rfl rfl ?_
    refine zA_gf3 rfl rfl e29 c30 ?_
    refine zA_aldn rfl rfl rfl ?_
    refine zA_gf0 rfl rfl (Or.inl rfl) e29 c30 ?_
    refine zA_push rfl rfl zkk6 ?_
    obtain ⟨p41, i42, j43, e44, c45, c46, e47, H⟩ := zar_e H
    obtain ⟨h48, e49, H⟩ := zlet_e H
    refine zA_ias rfl rfl e44 c45 c46 e47 e49 ?_
    refine zA_aldn rfl rfl rfl ?_
    refine zA_dup rfl rfl (zcat_rv _) ?_
    refine zA_gf0 rfl rfl (Or.inl rfl) e29 c30 ?_
    refine zA_push rfl rfl zkk5 ?_
    refine zA_st (st' := [zI ((zi h48 p27 i28 58) + (1 : Int32)), zrv x0]) rfl rfl rfl rfl ?_
    obtain ⟨h50, e51, H⟩ := zlet_e H
    refine zA_pf0 rfl rfl e29 c30 e51 ?_
    refine zA_aldn rfl rfl rfl ?_
    refine zA_gf0 rfl rfl (Or.inl rfl) e29 c30 ?_
    refine zA_push rfl rfl zkk5 ?_
    refine zA_st (st' := [zI ((zi h50 p27 i28 58) - (1 : Int32))]) rfl rfl rfl rfl ?_
    cases H
    exact zA_ret rfl rfl
  · refine zA_brF (c := (zi h25 p27 i28 0) ≤ 0) rfl rfl rfl c31 ?_
    refine zA_push rfl rfl zkk7 ?_
    cases H
    exact zA_ret rfl rfl
-- 225: ReleaseHouseModel.train(I)I
def zm225 (x0 : zq) (x1 : Int32) (h : zH) : zRs Int32 :=
  zob 12 x0 fun p21 i22 =>
  zb (zm139 x1 ((zi h p21 i22 1) + (1 : Int32)) (20000 : Int32) h) fun x26 h25 =>
  if x26 = 0 then
    zm225_18 x0 x1 x0 (1 : Int32) h25
  else
    if (zi h25 p21 i22 58) = (6 : Int32) then
      zm225_18 x0 x1 x0 (2 : Int32) h25
    else
      zm225_18 x0 x1 x0 (0 : Int32) h25
theorem zmS225 {x0 : zq} {x1 : Int32} {h : zH} {r : Int32 ⊕ Nat} {h' : zH} (H : zm225 x0 x1 h = some (r, h')) : zAt 225 0 [some (zrv x0), some (zI x1)] [] h (zoI r) h' := by
  unfold zm225 at H
  refine zA_aldn rfl rfl rfl ?_
  refine zA_ldn rfl rfl rfl ?_
  refine zA_aldn rfl rfl rfl ?_
  obtain ⟨p21, i22, e23, c24, H⟩ := zob_e H
  refine zA_gf0 rfl rfl (Or.inl rfl) e23 c24 ?_
  refine zA_push rfl rfl zkk5 ?_
  refine zA_st (st' := [zI ((zi h p21 i22 1) + (1 : Int32)), zI x1, zrv x0]) rfl rfl rfl rfl ?_
  refine zA_push rfl rfl zkk46 ?_
  rcases zb_e H with ⟨x26, h25, C, H⟩ | ⟨E, h25, C, H⟩
  · refine zA_callV (as := [zI x1, zI ((zi h p21 i22 1) + (1 : Int32)), zI (20000 : Int32)]) (st' := [zrv x0]) rfl rfl rfl rfl rfl (zmE139 _ _ _) rfl (zmS139 C) ?_
    rcases zite_e H with ⟨c27, H⟩ | ⟨c27, H⟩
    · refine zA_brF' (c := x26 = 0) rfl rfl rfl c27 ?_
      refine zA_push rfl rfl zkk5 ?_
      refine zA_go rfl rfl ?_
      exact zA_tr (L := [some (zrv x0), some (zI x1)]) rfl rfl (zmS225_18 _ _ _ _ _ _ _ H)
    · refine zA_brT' (c := x26 = 0) rfl rfl rfl c27 ?_
      refine zA_aldn rfl rfl rfl ?_
      refine zA_gf0 rfl rfl (Or.inl rfl) e23 c24 ?_
      refine zA_push rfl rfl zkk14 ?_
      rcases zite_e H with ⟨c28, H⟩ | ⟨c28, H⟩
      · refine zA_brF' (c := (zi h25 p21 i22 58) = (6 : Int32)) rfl rfl rfl c28 ?_
        refine zA_push rfl rfl zkk23 ?_
        refine zA_go rfl rfl ?_
        exact zA_tr (L := [some (zrv x0), some (zI x1)]) rfl rfl (zmS225_18 _ _ _ _ _ _ _ H)
      · refine zA_brT' (c := (zi h25 p21 i22 58) = (6 : Int32)) rfl rfl rfl c28 ?_
        refine zA_push rfl rfl zkk7 ?_
        exact zA_tr (L := [some (zrv x0), some (zI x1)]) rfl rfl (zmS225_18 _ _ _ _ _ _ _ H)
  · cases H
    exact zA_callX (as := [zI x1, zI ((zi h p21 i22 1) + (1 : Int32)), zI (20000 : Int32)]) (st' := [zrv x0]) rfl rfl rfl rfl (zmE139 _ _ _) rfl rfl rfl (zmS139 C)
theorem zmE225 (x0 : zq) (x1 : Int32) : zpad (zPr.2.1 225).1 (zil [zrv x0, zI x1]) = [some (zrv x0), some (zI x1)] := by
  simp only [zil_A, zil_I, zil_F, zil_D, zil_N]
  rfl
def zm113_59 (k45 : zq → zq → Int32 → Int32 → zH → zRs Int32) (x0 : zq) (x3 : zq) (x5 : Int32) (x6 : Int32) (h : zH) : zRs Int32 :=
  zlet (x6 + (1 : Int32)) fun x21 =>
  k45 x0 x3 x5 x21 h
theorem zmS113_59 {k45 : zq → zq → Int32 → Int32 → zH → zRs Int32} (hk45 : ∀ (x0 : zq) (x3 : zq) (x5 : Int32) (x6 : Int32) (h : zH) (r : Int32 ⊕ Nat) (h' : zH), k45 x0 x3 x5 x6 h = some (r, h') → zAt 113 45 [some (zrv x0), none, none, some (zrv x3), none, some (zI x5), some (zI x6)] [] h (zoI r) h') : ∀ (x0 : zq) (x3 : zq) (x5 : Int32) (x6 : Int32) (h : zH) (r : Int32 ⊕ Nat) (h' : zH), zm113_59 k45 x0 x3 x5 x6 h = some (r, h') → zAt 113 59 [some (zrv x0), none, none, some (zrv x3), none, some (zI x5), some (zI x6)] [] h (zoI r) h' := by
  intro x0 x3 x5 x6 h r h' H
  unfold zm113_59 at H
  obtain ⟨x21, e22, H⟩ := zlet_e H
  refine zA_inc rfl rfl rfl (e22.trans (congrArg (_ + ·) zkk8)) (zset1 (L' := [some (zrv x0), none, none, some (zrv x3), none, some (zI x5), some (zI x21)]) rfl rfl (zpcV rfl rfl)) ?_
  refine zA_go rfl rfl ?_
  exact zA_tr (L := [some (zrv x0), none, none, some (zrv x3), none, some (zI x5), some (zI x21)]) rfl rfl (hk45 _ _ _ _ _ _ _ H)
def zm113_45 : Nat → zq → zq → Int32 → Int32 → zH → zRs Int32
  | 0, _, _, _, _, _ => none
  | n + 1, x0, x3, x5, x6, h =>
    zob 11 x0 fun p21 i22 =>
    zlz (zr h p21 i22 2) h fun v30 =>
    if v30 ≤ x6 then
      some (.inl x5, h)
    else
      zlg (zr h p21 i22 2) x6 h fun v39 =>
      zob 5 v39 fun p41 i42 =>
      if (zr h p41 i42 7) = x3 then
        zlet (x5 + (1 : Int32)) fun x46 =>
        zm113_59 (zm113_45 n) x0 x3 x46 x6 h
      else
        zm113_59 (zm113_45 n) x0 x3 x5 x6 h
theorem zmS113_45 : ∀ (n : Nat) (x0 : zq) (x3 : zq) (x5 : Int32) (x6 : Int32) (h : zH) (r : Int32 ⊕ Nat) (h' : zH), zm113_45 n x0 x3 x5 x6 h = some (r, h') → zAt 113 45 [some (zrv x0), none, none, some (zrv x3), none, some (zI x5), some (zI x6)] [] h (zoI r) h' := by
  intro n
  induction n with
  | zero => intro x0 x3 x5 x6 h r h' H; cases H
  | succ n ih =>
    intro x0 x3 x5 x6 h r h' H
    unfold zm113_45 at H
    refine zA_ld rfl rfl rfl ?_
    refine zA_aldn rfl rfl rfl ?_
    obtain ⟨p21, i22, e23, c24, H⟩ := zob_e H
    refine zA_gf3 rfl rfl e23 c24 ?_
    obtain ⟨p25, i26, v30, e27, c28, c29, e31, H⟩ := zlz_e H
    refine zA_l2 rfl rfl rfl e27 c28 c29 e31 ?_
    rcases zite_e H with ⟨c32, H⟩ | ⟨c32, H⟩
    · refine zA_brT (c := v30 ≤ x6) rfl rfl rfl c32 ?_
      refine zA_tr (L := [none, none, none, none, none, some (zI x5), none]) rfl rfl ?_
      refine zA_ld rfl rfl rfl ?_
      cases H
      exact zA_ret rfl rfl
    · refine zA_brF (c := v30 ≤ x6) rfl rfl rfl c32 ?_
      refine zA_aldn rfl rfl rfl ?_
      refine zA_gf3 rfl rfl e23 c24 ?_
      refine zA_ld rfl rfl rfl ?_
      obtain ⟨p33, i34, v39, e35, c36, c37, c38, e40, H⟩ := zlg_e H
      refine zA_l3 rfl rfl rfl e35 c36 c37 c38 e40 ?_
      obtain ⟨p41, i42, e43, c44, H⟩ := zob_e H
      refine zA_cast rfl rfl e43 c44 ?_
      refine zA_gf3 rfl rfl e43 c44 ?_
      refine zA_aldn rfl rfl rfl ?_
      rcases zite_e H with ⟨c45, H⟩ | ⟨c45, H⟩
      · refine zA_brF' (c := (zr h p41 i42 7) = x3) rfl rfl zIf_ane c45 ?_
        obtain ⟨x46, e47, H⟩ := zlet_e H
        refine zA_inc rfl rfl rfl (e47.trans (congrArg (_ + ·) zkk8)) (zset1 (L' := [some (zrv x0), none, none, some (zrv x3), none, some (zI x46), some (zI x6)]) rfl rfl (zpcN rfl)) ?_
        exact zA_tr (L := [some (zrv x0), none, none, some (zrv x3), none, some (zI x46), some (zI x6)]) rfl rfl (zmS113_59 ih _ _ _ _ _ _ _ H)
      · refine zA_brT' (c := (zr h p41 i42 7) = x3) rfl rfl zIf_ane c45 ?_
        exact zA_tr (L := [some (zrv x0), none, none, some (zrv x3), none, some (zI x5), some (zI x6)]) rfl rfl (zmS113_59 ih _ _ _ _ _ _ _ H)
-- 113: ReleaseHouse.board(II)I
def zm113 (x0 : zq) (x1 : Int32) (x2 : Int32) (h : zH) : zRs Int32 :=
  zob 11 x0 fun p21 i22 =>
  zlz (zr h p21 i22 4) h fun v30 =>
  zb (zm130 x1 v30 h) fun _ h32 =>
  zlz (zr h32 p21 i22 2) h32 fun v38 =>
  zb (zm130 x2 v38 h32) fun _ h40 =>
  zlg (zr h40 p21 i22 4) x1 h40 fun v47 =>
  zob 10 v47 fun p49 i50 =>
  zlg (zr h40 p21 i22 2) x2 h40 fun v59 =>
  zob 5 v59 fun p61 i62 =>
  if (zi h40 p49 i50 1) = (-1 : Int32) then
    zb (zm10 v59 h40) fun x67 h66 =>
    if x67 = 0 then
      if (zr h66 p61 i62 7) = v47 then
        some (.inr 1, zro h66 1 6)
      else
        zlet (zsr h66 p61 i62 7 v47) fun h70 =>
        zm113_45 zN0 x0 v47 (0 : Int32) (0 : Int32) h70
    else
      some (.inr 1, zro h66 1 6)
  else
    some (.inr 1, zro h40 1 6)
theorem zmS113 {x0 : zq} {x1 : Int32} {x2 : Int32} {h : zH} {r : Int32 ⊕ Nat} {h' : zH} (H : zm113 x0 x1 x2 h = some (r, h')) : zAt 113 0 [some (zrv x0), some (zI x1), some (zI x2), none, none, none, none] [] h (zoI r) h' := by
  unfold zm113 at H
  refine zA_ldn rfl rfl rfl ?_
  refine zA_aldn rfl rfl rfl ?_
  obtain ⟨p21, i22, e23, c24, H⟩ := zob_e H
  refine zA_gf3 rfl rfl e23 c24 ?_
  obtain ⟨p25, i26, v30, e27, c28, c29, e31, H⟩ := zlz_e H
  refine zA_l2 rfl rfl rfl e27 c28 c29 e31 ?_
  rcases zb_e H with ⟨u73, h32, C, H⟩ | ⟨E, h32, C, H⟩
  · refine zA_callU (as := [zI x1, zI v30]) (st' := []) rfl rfl rfl rfl rfl (zmE130 _ _) rfl (zmS130 C) ?_
    refine zA_ldn rfl rfl rfl ?_
    refine zA_aldn rfl rfl rfl ?_
    refine zA_gf3 rfl rfl e23 c24 ?_
    obtain ⟨p33, i34, v38, e35, c36, c37, e39, H⟩ := zlz_e H
    refine zA_l2 rfl rfl rfl e35 c36 c37 e39 ?_
    rcases zb_e H with ⟨u72, h40, C, H⟩ | ⟨E, h40, C, H⟩
    · refine zA_callU (as := [zI x2, zI v38]) (st' := []) rfl rfl rfl rfl rfl (zmE130 _ _) rfl (zmS130 C) ?_
      refine zA_aldn rfl rfl rfl ?_
      refine zA_gf3 rfl rfl e23 c24 ?_
      refine zA_ldn rfl rfl rfl ?_
      obtain ⟨p41, i42, v47, e43, c44, c45, c46, e48, H⟩ := zlg_e H
      refine zA_l3 rfl rfl rfl e43 c44 c45 c46 e48 ?_
      obtain ⟨p49, i50, e51, c52, H⟩ := zob_e H
      refine zA_cast rfl rfl e51 c52 ?_
      refine zA_astn2 rfl rfl rfl (zset1 (L' := [some (zrv x0), some (zI x1), some (zI x2), some (zrv v47), none, none, none]) (zcat_rv _) rfl (zpcV rfl rfl)) ?_
      refine zA_aldn rfl rfl rfl ?_
      refine zA_gf3 rfl rfl e23 c24 ?_
      refine zA_ldn rfl rfl rfl ?_
      obtain ⟨p53, i54, v59, e55, c56, c57, c58, e60, H⟩ := zlg_e H
      refine zA_l3 rfl rfl rfl e55 c56 c57 c58 e60 ?_
      obtain ⟨p61, i62, e63, c64, H⟩ := zob_e H
      refine zA_cast rfl rfl e63 c64 ?_
      refine zA_ast2 rfl rfl rfl (zset1 (L' := [some (zrv x0), some (zI x1), some (zI x2), some (zrv v47), some (zrv v59), none, none]) (zcat_rv _) rfl (zpcV rfl (zcat_rv _))) ?_
      refine zA_aldn rfl rfl rfl ?_
      refine zA_gf0 rfl rfl (Or.inl rfl) e51 c52 ?_
      refine zA_push rfl rfl zkk6 ?_
      rcases zite_e H with ⟨c65, H⟩ | ⟨c65, H⟩
      · refine zA_brF' (c := (zi h40 p49 i50 1) = (-1 : Int32)) rfl rfl rfl c65 ?_
        refine zA_ald rfl rfl rfl ?_
        rcases zb_e H with ⟨x67, h66, C, H⟩ | ⟨E, h66, C, H⟩
        · refine zA_callV (as := [zrv v59]) (st' := []) rfl rfl rfl (zrcv_Q e63 c64) rfl (zmE10 _) rfl (zmS10 C) ?_
          rcases zite_e H with ⟨c68, H⟩ | ⟨c68, H⟩
          · refine zA_brF' (c := x67 = 0) rfl rfl rfl c68 ?_
            refine zA_ald rfl rfl rfl ?_
            refine zA_gf3 rfl rfl e63 c64 ?_
            refine zA_aldn rfl rfl rfl ?_
            rcases zite_e H with ⟨c69, H⟩ | ⟨c69, H⟩
            · refine zA_brF' (c := (zr h66 p61 i62 7) = v47) rfl rfl zIf_ane c69 ?_
              refine zA_tr (L := [none, none, none, none, none, none, none]) rfl rfl ?_
              cases H
              exact zA_thr rfl rfl
            · refine zA_brT' (c := (zr h66 p61 i62 7) = v47) rfl rfl zIf_ane c69 ?_
              refine zA_tr (L := [some (zrv x0), none, none, some (zrv v47), some (zrv v59), none, none]) rfl rfl ?_
              refine zA_ald rfl rfl rfl ?_
              refine zA_aldn rfl rfl rfl ?_
              obtain ⟨h70, e71, H⟩ := zlet_e H
              refine zA_pf3 rfl rfl e63 c64 e71 ?_
              refine zA_push rfl rfl zkk7 ?_
              refine zA_ist2 rfl rfl rfl (zset1 (L' := [some (zrv x0), none, none, some (zrv v47), some (zrv v59), some (zI (0 : Int32)), none]) rfl rfl (zpcV rfl (zcat_rv _))) ?_
              refine zA_push rfl rfl zkk7 ?_
              refine zA_ist2 rfl rfl rfl (zset1 (L' := [some (zrv x0), none, none, some (zrv v47), some (zrv v59), some (zI (0 : Int32)), some (zI (0 : Int32))]) rfl rfl (zpcV rfl rfl)) ?_
              exact zA_tr (L := [some (zrv x0), none, none, some (zrv v47), none, some (zI (0 : Int32)), some (zI (0 : Int32))]) rfl rfl (zmS113_45 zN0 _ _ _ _ _ _ _ H)
          · refine zA_brT' (c := x67 = 0) rfl rfl rfl c68 ?_
            refine zA_tr (L := [none, none, none, none, none, none, none]) rfl rfl ?_
            cases H
            exact zA_thr rfl rfl
        · cases H
          exact zA_callX (as := [zrv v59]) (st' := []) rfl rfl (zrcv_Q e63 c64) rfl (zmE10 _) rfl rfl rfl (zmS10 C)
      · refine zA_brT' (c := (zi h40 p49 i50 1) = (-1 : Int32)) rfl rfl rfl c65 ?_
        refine zA_tr (L := [none, none, none, none, none, none, none]) rfl rfl ?_
        cases H
        exact zA_thr rfl rfl
    · cases H
      exact zA_callX (as := [zI x2, zI v38]) (st' := []) rfl rfl rfl rfl (zmE130 _ _) rfl rfl rfl (zmS130 C)
  · cases H
    exact zA_callX (as := [zI x1, zI v30]) (st' := []) rfl rfl rfl rfl (zmE130 _ _) rfl rfl rfl (zmS130 C)
theorem zmE113 (x0 : zq) (x1 : Int32) (x2 : Int32) : zpad (zPr.2.1 113).1 (zil [zrv x0, zI x1, zI x2]) = [some (zrv x0), some (zI x1), some (zI x2), none, none, none, none] := by
  simp only [zil_A, zil_I, zil_F, zil_D, zil_N]
  rfl
-- 281: ReleaseHouseLaw.board(LReleaseHouse;II[J)I
def zm281 (x0 : zq) (x1 : Int32) (x2 : Int32) (x3 : zq) (h : zH) : zRs Int32 :=
  zob 11 x0 fun p21 i22 =>
  zbH [(0, 8, 2, 1), (0, 8, 1, 2)] 5 (zm113 x0 x1 x2 h) fun x26 h25 =>
  zar 3 x3 (0 : Int32) h25 fun p27 i28 j29 =>
  zlet (zsl h25 p27 i28 j29 (x26.toInt64)) fun h34 =>
  some (.inl (0 : Int32), h34)
theorem zmS281 {x0 : zq} {x1 : Int32} {x2 : Int32} {x3 : zq} {h : zH} {r : Int32 ⊕ Nat} {h' : zH} (H : zm281 x0 x1 x2 x3 h = some (r, h')) : zAt 281 0 [some (zrv x0), some (zI x1), some (zI x2), some (zrv x3), none] [] h (zoI r) h' := by
  unfold zm281 at H
  refine zA_aldn rfl rfl rfl ?_
  refine zA_push rfl rfl zkk7 ?_
  refine zA_aldn rfl rfl rfl ?_
  refine zA_ldn rfl rfl rfl ?_
  refine zA_ldn rfl rfl rfl ?_
  obtain ⟨p21, i22, e23, c24, H⟩ := zob_e H
  rcases zbH_e H with ⟨x26, h25, C, H⟩ | ⟨E, h25, c36, C, hc, H⟩
  · refine zA_callV (as := [zrv x0, zI x1, zI x2]) (st' := [zI (0 : Int32), zrv x3]) rfl rfl rfl (zrcv_Q e23 c24) rfl (zmE113 _ _ _) rfl (zmS113 C) ?_
    refine zA_st (st' := [zJ (x26.toInt64), zI (0 : Int32), zrv x3]) rfl rfl rfl rfl ?_
    obtain ⟨p27, i28, j29, e30, c31, c32, e33, H⟩ := zar_e H
    obtain ⟨h34, e35, H⟩ := zlet_e H
    refine zA_las rfl rfl e30 c31 c32 e33 e35 ?_
    refine zA_go rfl rfl ?_
    refine zA_tr (L := [none, none, none, none, none]) rfl rfl ?_
    refine zA_push rfl rfl zkk7 ?_
    cases H
    exact zA_ret rfl rfl
  · cases H
    exact zA_callH (as := [zrv x0, zI x1, zI x2]) (st' := [zI (0 : Int32), zrv x3]) rfl rfl (zrcv_Q e23 c24) rfl (zmE113 _ _ _) rfl rfl rfl (List.cons_ne_nil _ _) hc (zmS113 C)
theorem zmE281 (x0 : zq) (x1 : Int32) (x2 : Int32) (x3 : zq) : zpad (zPr.2.1 281).1 (zil [zrv x0, zI x1, zI x2, zrv x3]) = [some (zrv x0), some (zI x1), some (zI x2), some (zrv x3), none] := by
  simp only [zil_A, zil_I, zil_F, zil_D, zil_N]
  rfl
-- 226: ReleaseHouseModel.isTrain(I)Z
def zm226 (x0 : zq) (x1 : Int32) (h : zH) : zRs Int32 :=
  zob 12 x0 fun p21 i22 =>
  zb (zm139 x1 (0 : Int32) ((zi h p21 i22 58) - (1 : Int32)) h) fun x26 h25 =>
  zif (x26 = 0 ∨ x26 = 1) <|
  some (.inl x26, h25)
theorem zmS226 {x0 : zq} {x1 : Int32} {h : zH} {r : Int32 ⊕ Nat} {h' : zH} (H : zm226 x0 x1 h = some (r, h')) : zAt 226 0 [some (zrv x0), some (zI x1)] [] h (zoI r) h' := by
  unfold zm226 at H
  refine zA_ldn rfl rfl rfl ?_
  refine zA_push rfl rfl zkk7 ?_
  refine zA_aldn rfl rfl rfl ?_
  obtain ⟨p21, i22, e23, c24, H⟩ := zob_e H
  refine zA_gf0 rfl rfl (Or.inl rfl) e23 c24 ?_
  refine zA_push rfl rfl zkk5 ?_
  refine zA_st (st' := [zI ((zi h p21 i22 58) - (1 : Int32)), zI (0 : Int32), zI x1]) rfl rfl rfl rfl ?_
  rcases zb_e H with ⟨x26, h25, C, H⟩ | ⟨E, h25, C, H⟩
  · refine zA_callV (as := [zI x1, zI (0 : Int32), zI ((zi h p21 i22 58) - (1 : Int32))]) (st' := []) rfl rfl rfl rfl rfl (zmE139 _ _ _) rfl (zmS139 C) ?_
    obtain ⟨c27, H⟩ := zif_e H
    cases H
    exact zA_ret rfl (zret_Z c27)
  · cases H
    exact zA_callX (as := [zI x1, zI (0 : Int32), zI ((zi h p21 i22 58) - (1 : Int32))]) (st' := []) rfl rfl rfl rfl (zmE139 _ _ _) rfl rfl rfl (zmS139 C)
theorem zmE226 (x0 : zq) (x1 : Int32) : zpad (zPr.2.1 226).1 (zil [zrv x0, zI x1]) = [some (zrv x0), some (zI x1)] := by
  simp only [zil_A, zil_I, zil_F, zil_D, zil_N]
  rfl
def zm227_59 (k45 : zq → Int32 → Int32 → Int32 → zH → zRs Int32) (x0 : zq) (x1 : Int32) (x4 : Int32) (s0 : Int32) (s1 : Int32) (h : zH) : zRs Int32 :=
  zlet (s0 + s1) fun x21 =>
  zlet (x4 + (1 : Int32)) fun x23 =>
  k45 x0 x1 x21 x23 h
theorem zmS227_59 {k45 : zq → Int32 → Int32 → Int32 → zH → zRs Int32} (hk45 : ∀ (x0 : zq) (x1 : Int32) (x3 : Int32) (x4 : Int32) (h : zH) (r : Int32 ⊕ Nat) (h' : zH), k45 x0 x1 x3 x4 h = some (r, h') → zAt 227 45 [some (zrv x0), some (zI x1), none, some (zI x3), some (zI x4)] [] h (zoI r) h') : ∀ (x0 : zq) (x1 : Int32) (x4 : Int32) (s0 : Int32) (s1 : Int32) (h : zH) (r : Int32 ⊕ Nat) (h' : zH), zm227_59 k45 x0 x1 x4 s0 s1 h = some (r, h') → zAt 227 59 [some (zrv x0), some (zI x1), none, none, some (zI x4)] [zI s1, zI s0] h (zoI r) h' := by
  intro x0 x1 x4 s0 s1 h r h' H
  unfold zm227_59 at H
  refine zA_st (st' := [zI (s0 + s1)]) rfl rfl rfl rfl ?_
  obtain ⟨x21, e22, H⟩ := zlet_e H
  refine zA_istn2 rfl rfl e22 (zset1 (L' := [some (zrv x0), some (zI x1), none, some (zI x21), some (zI x4)]) rfl rfl (zpcN rfl)) ?_
  obtain ⟨x23, e24, H⟩ := zlet_e H
  refine zA_inc rfl rfl rfl (e24.trans (congrArg (_ + ·) zkk8)) (zset1 (L' := [some (zrv x0), some (zI x1), none, some (zI x21), some (zI x23)]) rfl rfl (zpcV rfl rfl)) ?_
  refine zA_go rfl rfl ?_
  exact zA_tr (L := [some (zrv x0), some (zI x1), none, some (zI x21), some (zI x23)]) rfl rfl (hk45 _ _ _ _ _ _ _ H)
def zm227_45 : Nat → zq → Int32 → Int32 → Int32 → zH → zRs Int32
  | 0, _, _, _, _, _ => none
  | n + 1, x0, x1, x3, x4, h =>
    zob 12 x0 fun p21 i22 =>
    if (zi h p21 i22 30) ≤ x4 then
      some (.inl x3, h)
    else
      zri (zr h p21 i22 40) x4 h fun v33 =>
      if v33 = x1 then
        zm227_59 (zm227_45 n) x0 x1 x4 x3 (1 : Int32) h
      else
        zm227_59 (zm227_45 n) x0 x1 x4 x3 (0 : Int32) h
theorem zmS227_45 : ∀ (n : Nat) (x0 : zq) (x1 : Int32) (x3 : Int32) (x4 : Int32) (h : zH) (r : Int32 ⊕ Nat) (h' : zH), zm227_45 n x0 x1 x3 x4 h = some (r, h') → zAt 227 45 [some (zrv x0), some (zI x1), none, some (zI x3), some (zI x4)] [] h (zoI r) h' := by
  intro n
  induction n with
  | zero => intro x0 x1 x3 x4 h r h' H; cases H
  | succ n ih =>
    intro x0 x1 x3 x4 h r h' H
    unfold zm227_45 at H
    refine zA_ld rfl rfl rfl ?_
    refine zA_aldn rfl rfl rfl ?_
    obtain ⟨p21, i22, e23, c24, H⟩ := zob_e H
    refine zA_gf0 rfl rfl (Or.inl rfl) e23 c24 ?_
    rcases zite_e H with ⟨c25, H⟩ | ⟨c25, H⟩
    · refine zA_brT (c := (zi h p21 i22 30) ≤ x4) rfl rfl rfl c25 ?_
      refine zA_tr (L := [none, none, none, some (zI x3), none]) rfl rfl ?_
      refine zA_ldn rfl rfl rfl ?_
      cases H
      exact zA_ret rfl rfl
    · refine zA_brF (c := (zi h p21 i22 30) ≤ x4) rfl rfl rfl c25 ?_
      refine zA_ldn rfl rfl rfl ?_
      refine zA_aldn rfl rfl rfl ?_
      refine zA_gf3 rfl rfl e23 c24 ?_
      refine zA_ld rfl rfl rfl ?_
      obtain ⟨p26, i27, j28, v33, e29, c30, c31, e32, e34, H⟩ := zri_e H
      refine zA_ial rfl rfl e29 c30 c31 e32 e34 ?_
      refine zA_ldn rfl rfl rfl ?_
      rcases zite_e H with ⟨c35, H⟩ | ⟨c35, H⟩
      · refine zA_brF' (c := v33 = x1) rfl rfl rfl c35 ?_
        refine zA_push rfl rfl zkk5 ?_
        refine zA_go rfl rfl ?_
        exact zA_tr (L := [some (zrv x0), some (zI x1), none, none, some (zI x4)]) rfl rfl (zmS227_59 ih _ _ _ _ _ _ _ _ H)
      · refine zA_brT' (c := v33 = x1) rfl rfl rfl c35 ?_
        refine zA_tr (L := [some (zrv x0), some (zI x1), none, none, some (zI x4)]) rfl rfl ?_
        refine zA_push rfl rfl zkk7 ?_
        exact zA_tr (L := [some (zrv x0), some (zI x1), none, none, some (zI x4)]) rfl rfl (zmS227_59 ih _ _ _ _ _ _ _ _ H)
def zm227_30 (x0 : zq) (x1 : Int32) (x2 : Int32) (s0 : zq) (s1 : Int32) (h : zH) : zRs Int32 :=
  zob 12 s0 fun p21 i22 =>
  zlet (zsi h p21 i22 0 s1) fun h25 =>
  zob 12 x0 fun p27 i28 =>
  if (zi h25 p27 i28 0) ≤ 0 then
    zar 1 (zr h25 p27 i28 40) x2 h25 fun p32 i33 j34 =>
    zlet (zsi h25 p32 i33 j34 x1) fun h39 =>
    zm227_45 zN0 x0 x1 (0 : Int32) (0 : Int32) h39
  else
    some (.inl (0 : Int32), h25)
theorem zmS227_30 : ∀ (x0 : zq) (x1 : Int32) (x2 : Int32) (s0 : zq) (s1 : Int32) (h : zH) (r : Int32 ⊕ Nat) (h' : zH), zm227_30 x0 x1 x2 s0 s1 h = some (r, h') → zAt 227 30 [some (zrv x0), some (zI x1), some (zI x2), none, none] [zI s1, zrv s0] h (zoI r) h' := by
  intro x0 x1 x2 s0 s1 h r h' H
  unfold zm227_30 at H
  obtain ⟨p21, i22, e23, c24, H⟩ := zob_e H
  obtain ⟨h25, e26, H⟩ := zlet_e H
  refine zA_pf0 rfl rfl e23 c24 e26 ?_
  refine zA_aldn rfl rfl rfl ?_
  obtain ⟨p27, i28, e29, c30, H⟩ := zob_e H
  refine zA_gf0 rfl rfl (Or.inl rfl) e29 c30 ?_
  rcases zite_e H with ⟨c31, H⟩ | ⟨c31, H⟩
  · refine zA_brT (c := (zi h25 p27 i28 0) ≤ 0) rfl rfl rfl c31 ?_
    refine zA_aldn rfl rfl rfl ?_
    refine zA_gf3 rfl rfl e29 c30 ?_
    refine zA_ldn rfl rfl rfl ?_
    refine zA_ldn rfl rfl rfl ?_
    obtain ⟨p32, i33, j34, e35, c36, c37, e38, H⟩ := zar_e H
    obtain ⟨h39, e40, H⟩ := zlet_e H
    refine zA_ias rfl rfl e35 c36 c37 e38 e40 ?_
    refine zA_push rfl rfl zkk7 ?_
    refine zA_istn2 rfl rfl rfl (zset1 (L' := [some (zrv x0), some (zI x1), some (zI x2), some (zI (0 : Int32)), none]) rfl rfl (zpcV rfl rfl)) ?_
    refine zA_push rfl rfl zkk7 ?_
    refine zA_ist2 rfl rfl rfl (zset1 (L' := [some (zrv x0), some (zI x1), some (zI x2), some (zI (0 : Int32)), some (zI (0 : Int32))]) rfl rfl (zpcV rfl rfl)) ?_
    exact zA_tr (L := [some (zrv x0), some (zI x1), none, some (zI (0 : Int32)), some (zI (0 : Int32))]) rfl rfl (zmS227_45 zN0 _ _ _ _ _ _ _ H)
  · refine zA_brF (c := (zi h25 p27 i28 0) ≤ 0) rfl rfl rfl c31 ?_
    refine zA_push rfl rfl zkk7 ?_
    cases H
    exact zA_ret rfl rfl
-- 227: ReleaseHouseModel.board(II)I
def zm227 (x0 : zq) (x1 : Int32) (x2 : Int32) (h : zH) : zRs Int32 :=
  zob 12 x0 fun p21 i22 =>
  zb (zm226 x0 x1 h) fun x26 h25 =>
  if x26 = 0 then
    zm227_30 x0 x1 x2 x0 (1 : Int32) h25
  else
    zb (zm143 x0 x2 h25) fun x29 h28 =>
    if x29 = 0 then
      zm227_30 x0 x1 x2 x0 (1 : Int32) h28
    else
      zri (zr h28 p21 i22 60) x1 h28 fun v38 =>
      if v38 = (-1 : Int32) then
        zb (zm156 x0 x2 h28) fun x42 h41 =>
        if x42 = 0 then
          zri (zr h41 p21 i22 40) x2 h41 fun v51 =>
          if v51 = x1 then
            zm227_30 x0 x1 x2 x0 (2 : Int32) h41
          else
            zm227_30 x0 x1 x2 x0 (0 : Int32) h41
        else
          zm227_30 x0 x1 x2 x0 (2 : Int32) h41
      else
        zm227_30 x0 x1 x2 x0 (2 : Int32) h28
theorem zmS227 {x0 : zq} {x1 : Int32} {x2 : Int32} {h : zH} {r : Int32 ⊕ Nat} {h' : zH} (H : zm227 x0 x1 x2 h = some (r, h')) : zAt 227 0 [some (zrv x0), some (zI x1), some (zI x2), none, none] [] h (zoI r) h' := by
  unfold zm227 at H
  refine zA_aldn rfl rfl rfl ?_
  refine zA_aldn rfl rfl rfl ?_
  refine zA_ldn rfl rfl rfl ?_
  obtain ⟨p21, i22, e23, c24, H⟩ := zob_e H
  rcases zb_e H with ⟨x26, h25, C, H⟩ | ⟨E, h25, C, H⟩
  · refine zA_callV (as := [zrv x0, zI x1]) (st' := [zrv x0]) rfl rfl rfl (zrcv_Q e23 c24) rfl (zmE226 _ _) rfl (zmS226 C) ?_
    rcases zite_e H with ⟨c27, H⟩ | ⟨c27, H⟩
    · refine zA_brT (c := x26 = 0) rfl rfl rfl c27 ?_
      refine zA_push rfl rfl zkk5 ?_
      refine zA_go rfl rfl ?_
      exact zA_tr (L := [some (zrv x0), some (zI x1), some (zI x2), none, none]) rfl rfl (zmS227_30 _ _ _ _ _ _ _ _ H)
    · refine zA_brF (c := x26 = 0) rfl rfl rfl c27 ?_
      refine zA_aldn rfl rfl rfl ?_
      refine zA_ldn rfl rfl rfl ?_
      rcases zb_e H with ⟨x29, h28, C, H⟩ | ⟨E, h28, C, H⟩
      · refine zA_callV (as := [zrv x0, zI x2]) (st' := [zrv x0]) rfl rfl rfl (zrcv_Q e23 c24) rfl (zmE143 _ _) rfl (zmS143 C) ?_
        rcases zite_e H with ⟨c30, H⟩ | ⟨c30, H⟩
        · refine zA_brF' (c := x29 = 0) rfl rfl rfl c30 ?_
          refine zA_push rfl rfl zkk5 ?_
          refine zA_go rfl rfl ?_
          exact zA_tr (L := [some (zrv x0), some (zI x1), some (zI x2), none, none]) rfl rfl (zmS227_30 _ _ _ _ _ _ _ _ H)
        · refine zA_brT' (c := x29 = 0) rfl rfl rfl c30 ?_
          refine zA_aldn rfl rfl rfl ?_
          refine zA_gf3 rfl rfl e23 c24 ?_
          refine zA_ldn rfl rfl rfl ?_
          obtain ⟨p31, i32, j33, v38, e34, c35, c36, e37, e39, H⟩ := zri_e H
          refine zA_ial rfl rfl e34 c35 c36 e37 e39 ?_
          refine zA_push rfl rfl zkk6 ?_
          rcases zite_e H with ⟨c40, H⟩ | ⟨c40, H⟩
          · refine zA_brF' (c := v38 = (-1 : Int32)) rfl rfl rfl c40 ?_
            refine zA_aldn rfl rfl rfl ?_
            refine zA_ldn rfl rfl rfl ?_
            rcases zb_e H with ⟨x42, h41, C, H⟩ | ⟨E, h41, C, H⟩
            · refine zA_callV (as := [zrv x0, zI x2]) (st' := [zrv x0]) rfl rfl rfl (zrcv_Q e23 c24) rfl (zmE156 _ _) rfl (zmS156 C) ?_
              rcases zite_e H with ⟨c43, H⟩ | ⟨c43, H⟩
              · refine zA_brF' (c := x42 = 0) rfl rfl rfl c43 ?_
                refine zA_aldn rfl rfl rfl ?_
                refine zA_gf3 rfl rfl e23 c24 ?_
                refine zA_ldn rfl rfl rfl ?_
                obtain ⟨p44, i45, j46, v51, e47, c48, c49, e50, e52, H⟩ := zri_e H
                refine zA_ial rfl rfl e47 c48 c49 e50 e52 ?_
                refine zA_ldn rfl rfl rfl ?_
                rcases zite_e H with ⟨c53, H⟩ | ⟨c53, H⟩
                · refine zA_brF' (c := v51 = x1) rfl rfl rfl c53 ?_
                  refine zA_push rfl rfl zkk23 ?_
                  refine zA_go rfl rfl ?_
                  exact zA_tr (L := [some (zrv x0), some (zI x1), some (zI x2), none, none]) rfl rfl (zmS227_30 _ _ _ _ _ _ _ _ H)
                · refine zA_brT' (c := v51 = x1) rfl rfl rfl c53 ?_
                  refine zA_push rfl rfl zkk7 ?_
                  exact zA_tr (L := [some (zrv x0), some (zI x1), some (zI x2), none, none]) rfl rfl (zmS227_30 _ _ _ _ _ _ _ _ H)
              · refine zA_brT' (c := x42 = 0) rfl rfl rfl c43 ?_
                refine zA_push rfl rfl zkk23 ?_
                refine zA_go rfl rfl ?_
                exact zA_tr (L := [some (zrv x0), some (zI x1), some (zI x2), none, none]) rfl rfl (zmS227_30 _ _ _ _ _ _ _ _ H)
            · cases H
              exact zA_callX (as := [zrv x0, zI x2]) (st' := [zrv x0]) rfl rfl (zrcv_Q e23 c24) rfl (zmE156 _ _) rfl rfl rfl (zmS156 C)
          · refine zA_brT' (c := v38 = (-1 : Int32)) rfl rfl rfl c40 ?_
            refine zA_push rfl rfl zkk23 ?_
            refine zA_go rfl rfl ?_
            exact zA_tr (L := [some (zrv x0), some (zI x1), some (zI x2), none, none]) rfl rfl (zmS227_30 _ _ _ _ _ _ _ _ H)
      · cases H
        exact zA_callX (as := [zrv x0, zI x2]) (st' := [zrv x0]) rfl rfl (zrcv_Q e23 c24) rfl (zmE143 _ _) rfl rfl rfl (zmS143 C)
  · cases H
    exact zA_callX (as := [zrv x0, zI x1]) (st' := [zrv x0]) rfl rfl (zrcv_Q e23 c24) rfl (zmE226 _ _) rfl rfl rfl (zmS226 C)
theorem zmE227 (x0 : zq) (x1 : Int32) (x2 : Int32) : zpad (zPr.2.1 227).1 (zil [zrv x0, zI x1, zI x2]) = [some (zrv x0), some (zI x1), some (zI x2), none, none] := by
  simp only [zil_A, zil_I, zil_F, zil_D, zil_N]
  rfl
-- 114: ReleaseHouse.taken(I)I
def zm114 (x0 : zq) (x1 : Int32) (h : zH) : zRs Int32 :=
  zob 11 x0 fun p21 i22 =>
  zlz (zr h p21 i22 4) h fun v30 =>
  zb (zm130 x1 v30 h) fun _ h32 =>
  zlg (zr h32 p21 i22 4) x1 h32 fun v39 =>
  zob 10 v39 fun p41 i42 =>
  some (.inl (zi h32 p41 i42 1), h32)
theorem zmS114 {x0 : zq} {x1 : Int32} {h : zH} {r : Int32 ⊕ Nat} {h' : zH} (H : zm114 x0 x1 h = some (r, h')) : zAt 114 0 [some (zrv x0), some (zI x1)] [] h (zoI r) h' := by
  unfold zm114 at H
  refine zA_ldn rfl rfl rfl ?_
  refine zA_aldn rfl rfl rfl ?_
  obtain ⟨p21, i22, e23, c24, H⟩ := zob_e H
  refine zA_gf3 rfl rfl e23 c24 ?_
  obtain ⟨p25, i26, v30, e27, c28, c29, e31, H⟩ := zlz_e H
  refine zA_l2 rfl rfl rfl e27 c28 c29 e31 ?_
  rcases zb_e H with ⟨u45, h32, C, H⟩ | ⟨E, h32, C, H⟩
  · refine zA_callU (as := [zI x1, zI v30]) (st' := []) rfl rfl rfl rfl rfl (zmE130 _ _) rfl (zmS130 C) ?_
    refine zA_aldn rfl rfl rfl ?_
    refine zA_gf3 rfl rfl e23 c24 ?_
    refine zA_ldn rfl rfl rfl ?_
    obtain ⟨p33, i34, v39, e35, c36, c37, c38, e40, H⟩ := zlg_e H
    refine zA_l3 rfl rfl rfl e35 c36 c37 c38 e40 ?_
    obtain ⟨p41, i42, e43, c44, H⟩ := zob_e H
    refine zA_cast rfl rfl e43 c44 ?_
    refine zA_gf0 rfl rfl (Or.inl rfl) e43 c44 ?_
    cases H
    exact zA_ret rfl rfl
  · cases H
    exact zA_callX (as := [zI x1, zI v30]) (st' := []) rfl rfl rfl rfl (zmE130 _ _) rfl rfl rfl (zmS130 C)
theorem zmE114 (x0 : zq) (x1 : Int32) : zpad (zPr.2.1 114).1 (zil [zrv x0, zI x1]) = [some (zrv x0), some (zI x1)] := by
  simp only [zil_A, zil_I, zil_F, zil_D, zil_N]
  rfl
-- 282: ReleaseHouseLaw.taken(LReleaseHouse;I[J)I
def zm282 (x0 : zq) (x1 : Int32) (x2 : zq) (h : zH) : zRs Int32 :=
  zob 11 x0 fun p21 i22 =>
  zbH [(0, 7, 2, 1)] 4 (zm114 x0 x1 h) fun x26 h25 =>
  zar 3 x2 (0 : Int32) h25 fun p27 i28 j29 =>
  zlet (zsl h25 p27 i28 j29 (x26.toInt64)) fun h34 =>
  some (.inl (0 : Int32), h34)
theorem zmS282 {x0 : zq} {x1 : Int32} {x2 : zq} {h : zH} {r : Int32 ⊕ Nat} {h' : zH} (H : zm282 x0 x1 x2 h = some (r, h')) : zAt 282 0 [some (zrv x0), some (zI x1), some (zrv x2), none] [] h (zoI r) h' := by
  unfold zm282 at H
  refine zA_aldn rfl rfl rfl ?_
  refine zA_push rfl rfl zkk7 ?_
  refine zA_aldn rfl rfl rfl ?_
  refine zA_ldn rfl rfl rfl ?_
  obtain ⟨p21, i22, e23, c24, H⟩ := zob_e H
  rcases zbH_e H with ⟨x26, h25, C, H⟩ | ⟨E, h25, c36, C, hc, H⟩
  · refine zA_callV (as := [zrv x0, zI x1]) (st' := [zI (0 : Int32), zrv x2]) rfl rfl rfl (zrcv_Q e23 c24) rfl (zmE114 _ _) rfl (zmS114 C) ?_
    refine zA_st (st' := [zJ (x26.toInt64), zI (0 : Int32), zrv x2]) rfl rfl rfl rfl ?_
    obtain ⟨p27, i28, j29, e30, c31, c32, e33, H⟩ := zar_e H
    obtain ⟨h34, e35, H⟩ := zlet_e H
    refine zA_las rfl rfl e30 c31 c32 e33 e35 ?_
    refine zA_go rfl rfl ?_
    refine zA_tr (L := [none, none, none, none]) rfl rfl ?_
    refine zA_push rfl rfl zkk7 ?_
    cases H
    exact zA_ret rfl rfl
  · cases H
    exact zA_callH (as := [zrv x0, zI x1]) (st' := [zI (0 : Int32), zrv x2]) rfl rfl (zrcv_Q e23 c24) rfl (zmE114 _ _) rfl rfl rfl (List.cons_ne_nil _ _) hc (zmS114 C)
theorem zmE282 (x0 : zq) (x1 : Int32) (x2 : zq) : zpad (zPr.2.1 282).1 (zil [zrv x0, zI x1, zrv x2]) = [some (zrv x0), some (zI x1), some (zrv x2), none] := by
  simp only [zil_A, zil_I, zil_F, zil_D, zil_N]
  rfl
def zm228_8 (x0 : zq) (x1 : Int32) (s0 : zq) (s1 : Int32) (h : zH) : zRs Int32 :=
  zob 12 s0 fun p21 i22 =>
  zlet (zsi h p21 i22 0 s1) fun h25 =>
  zob 12 x0 fun p27 i28 =>
  if (zi h25 p27 i28 0) ≤ 0 then
    zri (zr h25 p27 i28 60) x1 h25 fun v39 =>
    some (.inl v39, h25)
  else
    some (.inl (0 : Int32), h25)
theorem zmS228_8 : ∀ (x0 : zq) (x1 : Int32) (s0 : zq) (s1 : Int32) (h : zH) (r : Int32 ⊕ Nat) (h' : zH), zm228_8 x0 x1 s0 s1 h = some (r, h') → zAt 228 8 [some (zrv x0), some (zI x1)] [zI s1, zrv s0] h (zoI r) h' := by
  intro x0 x1 s0 s1 h r h' H
  unfold zm228_8 at H
  obtain ⟨p21, i22, e23, c24, H⟩ := zob_e H
  obtain ⟨h25, e26, H⟩ := zlet_e H
  refine zA_pf0 rfl rfl e23 c24 e26 ?_
  refine zA_aldn rfl rfl rfl ?_
  obtain ⟨p27, i28, e29, c30, H⟩ := zob_e H
  refine zA_gf0 rfl rfl (Or.inl rfl) e29 c30 ?_
  rcases zite_e H with ⟨c31, H⟩ | ⟨c31, H⟩
  · refine zA_brT (c := (zi h25 p27 i28 0) ≤ 0) rfl rfl rfl c31 ?_
    refine zA_aldn rfl rfl rfl ?_
    refine zA_gf3 rfl rfl e29 c30 ?_
    refine zA_ldn rfl rfl rfl ?_
    obtain ⟨p32, i33, j34, v39, e35, c36, c37, e38, e40, H⟩ := zri_e H
    refine zA_ial rfl rfl e35 c36 c37 e38 e40 ?_
    refine zA_tr (L := [none, none]) rfl rfl ?_
    cases H
    exact zA_ret rfl rfl
  · refine zA_brF (c := (zi h25 p27 i28 0) ≤ 0) rfl rfl rfl c31 ?_
    refine zA_push rfl rfl zkk7 ?_
    refine zA_go rfl rfl ?_
    refine zA_tr (L := [none, none]) rfl rfl ?_
    cases H
    exact zA_ret rfl rfl
-- 228: ReleaseHouseModel.taken(I)I
def zm228 (x0 : zq) (x1 : Int32) (h : zH) : zRs Int32 :=
  zob 12 x0 fun p21 i22 =>
  zb (zm226 x0 x1 h) fun x26 h25 =>
  if x26 = 0 then
    zm228_8 x0 x1 x0 (1 : Int32) h25
  else
    zm228_8 x0 x1 x0 (0 : Int32) h25
theorem zmS228 {x0 : zq} {x1 : Int32} {h : zH} {r : Int32 ⊕ Nat} {h' : zH} (H : zm228 x0 x1 h = some (r, h')) : zAt 228 0 [some (zrv x0), some (zI x1)] [] h (zoI r) h' := by
  unfold zm228 at H
  refine zA_aldn rfl rfl rfl ?_
  refine zA_aldn rfl rfl rfl ?_
  refine zA_ldn rfl rfl rfl ?_
  obtain ⟨p21, i22, e23, c24, H⟩ := zob_e H
  rcases zb_e H with ⟨x26, h25, C, H⟩ | ⟨E, h25, C, H⟩
  · refine zA_callV (as := [zrv x0, zI x1]) (st' := [zrv x0]) rfl rfl rfl (zrcv_Q e23 c24) rfl (zmE226 _ _) rfl (zmS226 C) ?_
    rcases zite_e H with ⟨c27, H⟩ | ⟨c27, H⟩
    · refine zA_brT (c := x26 = 0) rfl rfl rfl c27 ?_
      refine zA_push rfl rfl zkk5 ?_
      exact zA_tr (L := [some (zrv x0), some (zI x1)]) rfl rfl (zmS228_8 _ _ _ _ _ _ _ H)
    · refine zA_brF (c := x26 = 0) rfl rfl rfl c27 ?_
      refine zA_push rfl rfl zkk7 ?_
      refine zA_go rfl rfl ?_
      exact zA_tr (L := [some (zrv x0), some (zI x1)]) rfl rfl (zmS228_8 _ _ _ _ _ _ _ H)
  · cases H
    exact zA_callX (as := [zrv x0, zI x1]) (st' := [zrv x0]) rfl rfl (zrcv_Q e23 c24) rfl (zmE226 _ _) rfl rfl rfl (zmS226 C)
theorem zmE228 (x0 : zq) (x1 : Int32) : zpad (zPr.2.1 228).1 (zil [zrv x0, zI x1]) = [some (zrv x0), some (zI x1)] := by
  simp only [zil_A, zil_I, zil_F, zil_D, zil_N]
  rfl
def zm116_4 : Nat → zq → Int32 → Int32 → Int32 → zH → zRs Int32
  | 0, _, _, _, _, _ => none
  | n + 1, x0, x1, x3, x4, h =>
    if (8 : Int32) ≤ x4 then
      some (.inl (0 : Int32), h)
    else
      if x3 = (-1 : Int32) then
        some (.inl (0 : Int32), h)
      else
        if x3 = x1 then
          some (.inl (1 : Int32), h)
        else
          zob 11 x0 fun p24 i25 =>
          zra (zr h p24 i25 7) x3 h fun v35 =>
          zob 2 v35 fun p37 i38 =>
          zlet (zi h p37 i38 2) fun x41 =>
          zlet (x4 + (1 : Int32)) fun x43 =>
          zm116_4 n x0 x1 x41 x43 h
theorem zmS116_4 : ∀ (n : Nat) (x0 : zq) (x1 : Int32) (x3 : Int32) (x4 : Int32) (h : zH) (r : Int32 ⊕ Nat) (h' : zH), zm116_4 n x0 x1 x3 x4 h = some (r, h') → zAt 116 4 [some (zrv x0), some (zI x1), none, some (zI x3), some (zI x4)] [] h (zoI r) h' := by
  intro n
  induction n with
  | zero => intro x0 x1 x3 x4 h r h' H; cases H
  | succ n ih =>
    intro x0 x1 x3 x4 h r h' H
    unfold zm116_4 at H
    refine zA_ld rfl rfl rfl ?_
    refine zA_push rfl rfl zkk0 ?_
    rcases zite_e H with ⟨c21, H⟩ | ⟨c21, H⟩
    · refine zA_brT (c := (8 : Int32) ≤ x4) rfl rfl rfl c21 ?_
      refine zA_tr (L := [none, none, none, none, none]) rfl rfl ?_
      refine zA_push rfl rfl zkk7 ?_
      cases H
      exact zA_ret rfl (zret_Z (by decide))
    · refine zA_brF (c := (8 : Int32) ≤ x4) rfl rfl rfl c21 ?_
      refine zA_ldn rfl rfl rfl ?_
      refine zA_push rfl rfl zkk6 ?_
      rcases zite_e H with ⟨c22, H⟩ | ⟨c22, H⟩
      · refine zA_brT (c := x3 = (-1 : Int32)) rfl rfl rfl c22 ?_
        refine zA_tr (L := [none, none, none, none, none]) rfl rfl ?_
        refine zA_push rfl rfl zkk7 ?_
        cases H
        exact zA_ret rfl (zret_Z (by decide))
      · refine zA_brF (c := x3 = (-1 : Int32)) rfl rfl rfl c22 ?_
        refine zA_ldn rfl rfl rfl ?_
        refine zA_ldn rfl rfl rfl ?_
        rcases zite_e H with ⟨c23, H⟩ | ⟨c23, H⟩
        · refine zA_brF' (c := x3 = x1) rfl rfl rfl c23 ?_
          refine zA_push rfl rfl zkk5 ?_
          cases H
          exact zA_ret rfl (zret_Z (by decide))
        · refine zA_brT' (c := x3 = x1) rfl rfl rfl c23 ?_
          refine zA_aldn rfl rfl rfl ?_
          obtain ⟨p24, i25, e26, c27, H⟩ := zob_e H
          refine zA_gf3 rfl rfl e26 c27 ?_
          refine zA_ldn rfl rfl rfl ?_
          obtain ⟨p28, i29, j30, v35, e31, c32, c33, e34, e36, H⟩ := zra_e H
          refine zA_aal rfl rfl e31 c32 c33 e34 e36 ?_
          obtain ⟨p37, i38, e39, c40, H⟩ := zob_e H
          refine zA_gf0 rfl rfl (Or.inl rfl) e39 c40 ?_
          obtain ⟨x41, e42, H⟩ := zlet_e H
          refine zA_istn2 rfl rfl e42 (zset1 (L' := [some (zrv x0), some (zI x1), none, some (zI x41), some (zI x4)]) rfl rfl (zpcN rfl)) ?_
          obtain ⟨x43, e44, H⟩ := zlet_e H
          refine zA_inc rfl rfl rfl (e44.trans (congrArg (_ + ·) zkk8)) (zset1 (L' := [some (zrv x0), some (zI x1), none, some (zI x41), some (zI x43)]) rfl rfl (zpcV rfl rfl)) ?_
          refine zA_go rfl rfl ?_
          exact zA_tr (L := [some (zrv x0), some (zI x1), none, some (zI x41), some (zI x43)]) rfl rfl (ih _ _ _ _ _ _ _ H)
-- 116: ReleaseHouse.wouldNeedItself(II)Z
def zm116 (x0 : zq) (x1 : Int32) (x2 : Int32) (h : zH) : zRs Int32 :=
  zm116_4 zN0 x0 x1 x2 (0 : Int32) h
theorem zmS116 {x0 : zq} {x1 : Int32} {x2 : Int32} {h : zH} {r : Int32 ⊕ Nat} {h' : zH} (H : zm116 x0 x1 x2 h = some (r, h')) : zAt 116 0 [some (zrv x0), some (zI x1), some (zI x2), none, none] [] h (zoI r) h' := by
  unfold zm116 at H
  refine zA_ldn rfl rfl rfl ?_
  refine zA_istn2 rfl rfl rfl (zset1 (L' := [some (zrv x0), some (zI x1), some (zI x2), some (zI x2), none]) rfl rfl (zpcV rfl rfl)) ?_
  refine zA_push rfl rfl zkk7 ?_
  refine zA_ist2 rfl rfl rfl (zset1 (L' := [some (zrv x0), some (zI x1), some (zI x2), some (zI x2), some (zI (0 : Int32))]) rfl rfl (zpcV rfl rfl)) ?_
  exact zA_tr (L := [some (zrv x0), some (zI x1), none, some (zI x2), some (zI (0 : Int32))]) rfl rfl (zmS116_4 zN0 _ _ _ _ _ _ _ H)
theorem zmE116 (x0 : zq) (x1 : Int32) (x2 : Int32) : zpad (zPr.2.1 116).1 (zil [zrv x0, zI x1, zI x2]) = [some (zrv x0), some (zI x1), some (zI x2), none, none] := by
  simp only [zil_A, zil_I, zil_F, zil_D, zil_N]
  rfl
-- 115: ReleaseHouse.flag(III)V
def zm115 (x0 : zq) (x1 : Int32) (x2 : Int32) (x3 : Int32) (h : zH) : zRs Unit :=
  zb (zm131 x1 (0 : Int32) (7 : Int32) h) fun _ h21 =>
  zb (zm131 x2 (0 : Int32) (100 : Int32) h21) fun _ h22 =>
  zb (zm131 x3 (-1 : Int32) (7 : Int32) h22) fun _ h23 =>
  zob 11 x0 fun p24 i25 =>
  zb (zm116 x0 x1 x3 h23) fun x29 h28 =>
  if x29 = 0 then
    zra (zr h28 p24 i25 7) x1 h28 fun v38 =>
    zob 2 v38 fun p40 i41 =>
    zlet (zsi h28 p40 i41 1 x2) fun h44 =>
    zra (zr h44 p24 i25 7) x1 h44 fun v53 =>
    zob 2 v53 fun p55 i56 =>
    zlet (zsi h44 p55 i56 2 x3) fun h59 =>
    some (.inl (), h59)
  else
    some (.inr 1, zro h28 1 6)
theorem zmS115 {x0 : zq} {x1 : Int32} {x2 : Int32} {x3 : Int32} {h : zH} {r : Unit ⊕ Nat} {h' : zH} (H : zm115 x0 x1 x2 x3 h = some (r, h')) : zAt 115 0 [some (zrv x0), some (zI x1), some (zI x2), some (zI x3)] [] h (zoU r) h' := by
  unfold zm115 at H
  refine zA_ldn rfl rfl rfl ?_
  refine zA_push rfl rfl zkk7 ?_
  refine zA_push rfl rfl zkk22 ?_
  rcases zb_e H with ⟨u63, h21, C, H⟩ | ⟨E, h21, C, H⟩
  · refine zA_callU (as := [zI x1, zI (0 : Int32), zI (7 : Int32)]) (st' := []) rfl rfl rfl rfl rfl (zmE131 _ _ _) rfl (zmS131 C) ?_
    refine zA_ldn rfl rfl rfl ?_
    refine zA_push rfl rfl zkk7 ?_
    refine zA_push rfl rfl zkk29 ?_
    rcases zb_e H with ⟨u62, h22, C, H⟩ | ⟨E, h22, C, H⟩
    · refine zA_callU (as := [zI x2, zI (0 : Int32), zI (100 : Int32)]) (st' := []) rfl rfl rfl rfl rfl (zmE131 _ _ _) rfl (zmS131 C) ?_
      refine zA_ldn rfl rfl rfl ?_
      refine zA_push rfl rfl zkk6 ?_
      refine zA_push rfl rfl zkk22 ?_
      rcases zb_e H with ⟨u61, h23, C, H⟩ | ⟨E, h23, C, H⟩
      · refine zA_callU (as := [zI x3, zI (-1 : Int32), zI (7 : Int32)]) (st' := []) rfl rfl rfl rfl rfl (zmE131 _ _ _) rfl (zmS131 C) ?_
        refine zA_aldn rfl rfl rfl ?_
        refine zA_ldn rfl rfl rfl ?_
        refine zA_ldn rfl rfl rfl ?_
        obtain ⟨p24, i25, e26, c27, H⟩ := zob_e H
        rcases zb_e H with ⟨x29, h28, C, H⟩ | ⟨E, h28, C, H⟩
        · refine zA_callV (as := [zrv x0, zI x1, zI x3]) (st' := []) rfl rfl rfl (zrcv_Q e26 c27) rfl (zmE116 _ _ _) rfl (zmS116 C) ?_
          rcases zite_e H with ⟨c30, H⟩ | ⟨c30, H⟩
          · refine zA_brT (c := x29 = 0) rfl rfl rfl c30 ?_
            refine zA_aldn rfl rfl rfl ?_
            refine zA_gf3 rfl rfl e26 c27 ?_
            refine zA_ldn rfl rfl rfl ?_
            obtain ⟨p31, i32, j33, v38, e34, c35, c36, e37, e39, H⟩ := zra_e H
            refine zA_aal rfl rfl e34 c35 c36 e37 e39 ?_
            refine zA_ldn rfl rfl rfl ?_
            obtain ⟨p40, i41, e42, c43, H⟩ := zob_e H
            obtain ⟨h44, e45, H⟩ := zlet_e H
            refine zA_pf0 rfl rfl e42 c43 e45 ?_
            refine zA_aldn rfl rfl rfl ?_
            refine zA_gf3 rfl rfl e26 c27 ?_
            refine zA_ldn rfl rfl rfl ?_
            obtain ⟨p46, i47, j48, v53, e49, c50, c51, e52, e54, H⟩ := zra_e H
            refine zA_aal rfl rfl e49 c50 c51 e52 e54 ?_
            refine zA_ldn rfl rfl rfl ?_
            obtain ⟨p55, i56, e57, c58, H⟩ := zob_e H
            obtain ⟨h59, e60, H⟩ := zlet_e H
            refine zA_pf0 rfl rfl e57 c58 e60 ?_
            cases H
            exact zA_ret rfl rfl
          · refine zA_brF (c := x29 = 0) rfl rfl rfl c30 ?_
            cases H
            exact zA_thr rfl rfl
        · cases H
          exact zA_callX (as := [zrv x0, zI x1, zI x3]) (st' := []) rfl rfl (zrcv_Q e26 c27) rfl (zmE116 _ _ _) rfl rfl rfl (zmS116 C)
      · cases H
        exact zA_callX (as := [zI x3, zI (-1 : Int32), zI (7 : Int32)]) (st' := []) rfl rfl rfl rfl (zmE131 _ _ _) rfl rfl rfl (zmS131 C)
    · cases H
      exact zA_callX (as := [zI x2, zI (0 : Int32), zI (100 : Int32)]) (st' := []) rfl rfl rfl rfl (zmE131 _ _ _) rfl rfl rfl (zmS131 C)
  · cases H
    exact zA_callX (as := [zI x1, zI (0 : Int32), zI (7 : Int32)]) (st' := []) rfl rfl rfl rfl (zmE131 _ _ _) rfl rfl rfl (zmS131 C)
theorem zmE115 (x0 : zq) (x1 : Int32) (x2 : Int32) (x3 : Int32) : zpad (zPr.2.1 115).1 (zil [zrv x0, zI x1, zI x2, zI x3]) = [some (zrv x0), some (zI x1), some (zI x2), some (zI x3)] := by
  simp only [zil_A, zil_I, zil_F, zil_D, zil_N]
  rfl
-- 283: ReleaseHouseLaw.flag(LReleaseHouse;III)I
def zm283 (x0 : zq) (x1 : Int32) (x2 : Int32) (x3 : Int32) (h : zH) : zRs Int32 :=
  zob 11 x0 fun p21 i22 =>
  zbH [(0, 5, 0, 1), (0, 5, 1, 2)] 4 (zm115 x0 x1 x2 x3 h) fun _ h25 =>
  some (.inl (0 : Int32), h25)
theorem zmS283 {x0 : zq} {x1 : Int32} {x2 : Int32} {x3 : Int32} {h : zH} {r : Int32 ⊕ Nat} {h' : zH} (H : zm283 x0 x1 x2 x3 h = some (r, h')) : zAt 283 0 [some (zrv x0), some (zI x1), some (zI x2), some (zI x3), none] [] h (zoI r) h' := by
  unfold zm283 at H
  refine zA_aldn rfl rfl rfl ?_
  refine zA_ldn rfl rfl rfl ?_
  refine zA_ldn rfl rfl rfl ?_
  refine zA_ldn rfl rfl rfl ?_
  obtain ⟨p21, i22, e23, c24, H⟩ := zob_e H
  rcases zbH_e H with ⟨u26, h25, C, H⟩ | ⟨E, h25, c27, C, hc, H⟩
  · refine zA_callU (as := [zrv x0, zI x1, zI x2, zI x3]) (st' := []) rfl rfl rfl (zrcv_Q e23 c24) rfl (zmE115 _ _ _ _) rfl (zmS115 C) ?_
    refine zA_go rfl rfl ?_
    refine zA_tr (L := [none, none, none, none, none]) rfl rfl ?_
    refine zA_push rfl rfl zkk7 ?_
    cases H
    exact zA_ret rfl rfl
  · cases H
    exact zA_callH (as := [zrv x0, zI x1, zI x2, zI x3]) (st' := []) rfl rfl (zrcv_Q e23 c24) rfl (zmE115 _ _ _ _) rfl rfl rfl (List.cons_ne_nil _ _) hc (zmS115 C)
theorem zmE283 (x0 : zq) (x1 : Int32) (x2 : Int32) (x3 : Int32) : zpad (zPr.2.1 283).1 (zil [zrv x0, zI x1, zI x2, zI x3]) = [some (zrv x0), some (zI x1), some (zI x2), some (zI x3), none] := by
  simp only [zil_A, zil_I, zil_F, zil_D, zil_N]
  rfl
-- 229: ReleaseHouseModel.isFlag(I)Z
def zm229 (x0 : Int32) (h : zH) : zRs Int32 :=
  zb (zm139 x0 (0 : Int32) (7 : Int32) h) fun x22 h21 =>
  zif (x22 = 0 ∨ x22 = 1) <|
  some (.inl x22, h21)
theorem zmS229 {x0 : Int32} {h : zH} {r : Int32 ⊕ Nat} {h' : zH} (H : zm229 x0 h = some (r, h')) : zAt 229 0 [some (zI x0)] [] h (zoI r) h' := by
  unfold zm229 at H
  refine zA_ldn rfl rfl rfl ?_
  refine zA_push rfl rfl zkk7 ?_
  refine zA_push rfl rfl zkk22 ?_
  rcases zb_e H with ⟨x22, h21, C, H⟩ | ⟨E, h21, C, H⟩
  · refine zA_callV (as := [zI x0, zI (0 : Int32), zI (7 : Int32)]) (st' := []) rfl rfl rfl rfl rfl (zmE139 _ _ _) rfl (zmS139 C) ?_
    obtain ⟨c23, H⟩ := zif_e H
    cases H
    exact zA_ret rfl (zret_Z c23)
  · cases H
    exact zA_callX (as := [zI x0, zI (0 : Int32), zI (7 : Int32)]) (st' := []) rfl rfl rfl rfl (zmE139 _ _ _) rfl rfl rfl (zmS139 C)
theorem zmE229 (x0 : Int32) : zpad (zPr.2.1 229).1 (zil [zI x0]) = [some (zI x0)] := by
  simp only [zil_A, zil_I, zil_F, zil_D, zil_N]
  rfl
def zm230_44 (k33 : zq → Int32 → Int32 → Int32 → Int32 → Int32 → Int32 → zH → zRs Unit) (x0 : zq) (x1 : Int32) (x2 : Int32) (x3 : Int32) (x4 : Int32) (x6 : Int32) (s0 : Int32) (h : zH) : zRs Unit :=
  zob 12 x0 fun p21 i22 =>
  zri (zr h p21 i22 62) x6 h fun v32 =>
  k33 x0 x1 x2 x3 x4 s0 v32 h
theorem zmS230_44 {k33 : zq → Int32 → Int32 → Int32 → Int32 → Int32 → Int32 → zH → zRs Unit} (hk33 : ∀ (x0 : zq) (x1 : Int32) (x2 : Int32) (x3 : Int32) (x4 : Int32) (x5 : Int32) (x6 : Int32) (h : zH) (r : Unit ⊕ Nat) (h' : zH), k33 x0 x1 x2 x3 x4 x5 x6 h = some (r, h') → zAt 230 33 [some (zrv x0), some (zI x1), some (zI x2), some (zI x3), some (zI x4), some (zI x5), some (zI x6)] [] h (zoU r) h') : ∀ (x0 : zq) (x1 : Int32) (x2 : Int32) (x3 : Int32) (x4 : Int32) (x6 : Int32) (s0 : Int32) (h : zH) (r : Unit ⊕ Nat) (h' : zH), zm230_44 k33 x0 x1 x2 x3 x4 x6 s0 h = some (r, h') → zAt 230 44 [some (zrv x0), some (zI x1), some (zI x2), some (zI x3), some (zI x4), none, some (zI x6)] [zI s0] h (zoU r) h' := by
  intro x0 x1 x2 x3 x4 x6 s0 h r h' H
  unfold zm230_44 at H
  refine zA_ist2 rfl rfl rfl (zset1 (L' := [some (zrv x0), some (zI x1), some (zI x2), some (zI x3), some (zI x4), some (zI s0), some (zI x6)]) rfl rfl (zpcV rfl rfl)) ?_
  refine zA_aldn rfl rfl rfl ?_
  obtain ⟨p21, i22, e23, c24, H⟩ := zob_e H
  refine zA_gf3 rfl rfl e23 c24 ?_
  refine zA_ld rfl rfl rfl ?_
  obtain ⟨p25, i26, j27, v32, e28, c29, c30, e31, e33, H⟩ := zri_e H
  refine zA_ial rfl rfl e28 c29 c30 e31 e33 ?_
  refine zA_ist2 rfl rfl rfl (zset1 (L' := [some (zrv x0), some (zI x1), some (zI x2), some (zI x3), some (zI x4), some (zI s0), some (zI v32)]) rfl rfl (zpcV rfl rfl)) ?_
  refine zA_go rfl rfl ?_
  exact zA_tr (L := [some (zrv x0), some (zI x1), some (zI x2), some (zI x3), some (zI x4), some (zI s0), some (zI v32)]) rfl rfl (hk33 _ _ _ _ _ _ _ _ _ _ H)
def zm230_33 (k51 : zq → Int32 → Int32 → Int32 → Int32 → Int32 → zH → zRs Unit) : Nat → zq → Int32 → Int32 → Int32 → Int32 → Int32 → Int32 → zH → zRs Unit
  | 0, _, _, _, _, _, _, _, _ => none
  | n + 1, x0, x1, x2, x3, x4, x5, x6, h =>
    if x6 = (-1 : Int32) then
      k51 x0 x1 x2 x3 x4 x5 h
    else
      if x5 = 0 then
        if x6 = x1 then
          zm230_44 (zm230_33 k51 n) x0 x1 x2 x3 x4 x6 (1 : Int32) h
        else
          zm230_44 (zm230_33 k51 n) x0 x1 x2 x3 x4 x6 (0 : Int32) h
      else
        k51 x0 x1 x2 x3 x4 x5 h
theorem zmS230_33 {k51 : zq → Int32 → Int32 → Int32 → Int32 → Int32 → zH → zRs Unit} (hk51 : ∀ (x0 : zq) (x1 : Int32) (x2 : Int32) (x3 : Int32) (x4 : Int32) (x5 : Int32) (h : zH) (r : Unit ⊕ Nat) (h' : zH), k51 x0 x1 x2 x3 x4 x5 h = some (r, h') → zAt 230 51 [some (zrv x0), some (zI x1), some (zI x2), some (zI x3), some (zI x4), some (zI x5), none] [] h (zoU r) h') : ∀ (n : Nat) (x0 : zq) (x1 : Int32) (x2 : Int32) (x3 : Int32) (x4 : Int32) (x5 : Int32) (x6 : Int32) (h : zH) (r : Unit ⊕ Nat) (h' : zH), zm230_33 k51 n x0 x1 x2 x3 x4 x5 x6 h = some (r, h') → zAt 230 33 [some (zrv x0), some (zI x1), some (zI x2), some (zI x3), some (zI x4), some (zI x5), some (zI x6)] [] h (zoU r) h' := by
  intro n
  induction n with
  | zero => intro x0 x1 x2 x3 x4 x5 x6 h r h' H; cases H
  | succ n ih =>
    intro x0 x1 x2 x3 x4 x5 x6 h r h' H
    unfold zm230_33 at H
    refine zA_ld rfl rfl rfl ?_
    refine zA_push rfl rfl zkk6 ?_
    rcases zite_e H with ⟨c21, H⟩ | ⟨c21, H⟩
    · refine zA_brT (c := x6 = (-1 : Int32)) rfl rfl rfl c21 ?_
      exact zA_tr (L := [some (zrv x0), some (zI x1), some (zI x2), some (zI x3), some (zI x4), some (zI x5), none]) rfl rfl (hk51 _ _ _ _ _ _ _ _ _ H)
    · refine zA_brF (c := x6 = (-1 : Int32)) rfl rfl rfl c21 ?_
      refine zA_ld rfl rfl rfl ?_
      rcases zite_e H with ⟨c22, H⟩ | ⟨c22, H⟩
      · refine zA_brF' (c := x5 = 0) rfl rfl rfl c22 ?_
        refine zA_ld rfl rfl rfl ?_
        refine zA_ldn rfl rfl rfl ?_
        rcases zite_e H with ⟨c23, H⟩ | ⟨c23, H⟩
        · refine zA_brF' (c := x6 = x1) rfl rfl rfl c23 ?_
          refine zA_push rfl rfl zkk5 ?_
          refine zA_go rfl rfl ?_
          exact zA_tr (L := [some (zrv x0), some (zI x1), some (zI x2), some (zI x3), some (zI x4), none, some (zI x6)]) rfl rfl (zmS230_44 ih _ _ _ _ _ _ _ _ _ _ H)
        · refine zA_brT' (c := x6 = x1) rfl rfl rfl c23 ?_
          refine zA_tr (L := [some (zrv x0), some (zI x1), some (zI x2), some (zI x3), some (zI x4), none, some (zI x6)]) rfl rfl ?_
          refine zA_push rfl rfl zkk7 ?_
          exact zA_tr (L := [some (zrv x0), some (zI x1), some (zI x2), some (zI x3), some (zI x4), none, some (zI x6)]) rfl rfl (zmS230_44 ih _ _ _ _ _ _ _ _ _ _ H)
      · refine zA_brT' (c := x5 = 0) rfl rfl rfl c22 ?_
        exact zA_tr (L := [some (zrv x0), some (zI x1), some (zI x2), some (zI x3), some (zI x4), some (zI x5), none]) rfl rfl (hk51 _ _ _ _ _ _ _ _ _ H)
def zm230_61 (x0 : zq) (x1 : Int32) (x2 : Int32) (x3 : Int32) (s0 : zq) (s1 : Int32) (h : zH) : zRs Unit :=
  zob 12 s0 fun p21 i22 =>
  zlet (zsi h p21 i22 0 s1) fun h25 =>
  zob 12 x0 fun p27 i28 =>
  if (zi h25 p27 i28 0) = 0 then
    zar 1 (zr h25 p27 i28 61) x1 h25 fun p32 i33 j34 =>
    zlet (zsi h25 p32 i33 j34 x2) fun h39 =>
    zar 1 (zr h39 p27 i28 62) x1 h39 fun p41 i42 j43 =>
    zlet (zsi h39 p41 i42 j43 x3) fun h48 =>
    some (.inl (), h48)
  else
    some (.inl (), h25)
theorem zmS230_61 : ∀ (x0 : zq) (x1 : Int32) (x2 : Int32) (x3 : Int32) (s0 : zq) (s1 : Int32) (h : zH) (r : Unit ⊕ Nat) (h' : zH), zm230_61 x0 x1 x2 x3 s0 s1 h = some (r, h') → zAt 230 61 [some (zrv x0), some (zI x1), some (zI x2), some (zI x3), none, none, none] [zI s1, zrv s0] h (zoU r) h' := by
  intro x0 x1 x2 x3 s0 s1 h r h' H
  unfold zm230_61 at H
  obtain ⟨p21, i22, e23, c24, H⟩ := zob_e H
  obtain ⟨h25, e26, H⟩ := zlet_e H
  refine zA_pf0 rfl rfl e23 c24 e26 ?_
  refine zA_aldn rfl rfl rfl ?_
  obtain ⟨p27, i28, e29, c30, H⟩ := zob_e H
  refine zA_gf0 rfl rfl (Or.inl rfl) e29 c30 ?_
  rcases zite_e H with ⟨c31, H⟩ | ⟨c31, H⟩
  · refine zA_brF' (c := (zi h25 p27 i28 0) = 0) rfl rfl rfl c31 ?_
    refine zA_aldn rfl rfl rfl ?_
    refine zA_gf3 rfl rfl e29 c30 ?_
    refine zA_ldn rfl rfl rfl ?_
    refine zA_ldn rfl rfl rfl ?_
    obtain ⟨p32, i33, j34, e35, c36, c37, e38, H⟩ := zar_e H
    obtain ⟨h39, e40, H⟩ := zlet_e H
    refine zA_ias rfl rfl e35 c36 c37 e38 e40 ?_
    refine zA_aldn rfl rfl rfl ?_
    refine zA_gf3 rfl rfl e29 c30 ?_
    refine zA_ldn rfl rfl rfl ?_
    refine zA_ldn rfl rfl rfl ?_
    obtain ⟨p41, i42, j43, e44, c45, c46, e47, H⟩ := zar_e H
    obtain ⟨h48, e49, H⟩ := zlet_e H
    refine zA_ias rfl rfl e44 c45 c46 e47 e49 ?_
    refine zA_tr (L := [none, none, none, none, none, none, none]) rfl rfl ?_
    cases H
    exact zA_ret rfl rfl
  · refine zA_brT' (c := (zi h25 p27 i28 0) = 0) rfl rfl rfl c31 ?_
    refine zA_tr (L := [none, none, none, none, none, none, none]) rfl rfl ?_
    cases H
    exact zA_ret rfl rfl
def zm230_51 (x0 : zq) (x1 : Int32) (x2 : Int32) (x3 : Int32) (x4 : Int32) (x5 : Int32) (h : zH) : zRs Unit :=
  if x4 = 0 then
    zm230_61 x0 x1 x2 x3 x0 (1 : Int32) h
  else
    if x5 = 0 then
      zm230_61 x0 x1 x2 x3 x0 (0 : Int32) h
    else
      zm230_61 x0 x1 x2 x3 x0 (2 : Int32) h
theorem zmS230_51 : ∀ (x0 : zq) (x1 : Int32) (x2 : Int32) (x3 : Int32) (x4 : Int32) (x5 : Int32) (h : zH) (r : Unit ⊕ Nat) (h' : zH), zm230_51 x0 x1 x2 x3 x4 x5 h = some (r, h') → zAt 230 51 [some (zrv x0), some (zI x1), some (zI x2), some (zI x3), some (zI x4), some (zI x5), none] [] h (zoU r) h' := by
  intro x0 x1 x2 x3 x4 x5 h r h' H
  unfold zm230_51 at H
  refine zA_aldn rfl rfl rfl ?_
  refine zA_ld rfl rfl rfl ?_
  rcases zite_e H with ⟨c21, H⟩ | ⟨c21, H⟩
  · refine zA_brF' (c := x4 = 0) rfl rfl rfl c21 ?_
    refine zA_push rfl rfl zkk5 ?_
    refine zA_go rfl rfl ?_
    exact zA_tr (L := [some (zrv x0), some (zI x1), some (zI x2), some (zI x3), none, none, none]) rfl rfl (zmS230_61 _ _ _ _ _ _ _ _ _ H)
  · refine zA_brT' (c := x4 = 0) rfl rfl rfl c21 ?_
    refine zA_tr (L := [some (zrv x0), some (zI x1), some (zI x2), some (zI x3), none, some (zI x5), none]) rfl rfl ?_
    refine zA_ld rfl rfl rfl ?_
    rcases zite_e H with ⟨c22, H⟩ | ⟨c22, H⟩
    · refine zA_brT (c := x5 = 0) rfl rfl rfl c22 ?_
      refine zA_tr (L := [some (zrv x0), some (zI x1), some (zI x2), some (zI x3), none, none, none]) rfl rfl ?_
      refine zA_push rfl rfl zkk7 ?_
      exact zA_tr (L := [some (zrv x0), some (zI x1), some (zI x2), some (zI x3), none, none, none]) rfl rfl (zmS230_61 _ _ _ _ _ _ _ _ _ H)
    · refine zA_brF (c := x5 = 0) rfl rfl rfl c22 ?_
      refine zA_push rfl rfl zkk23 ?_
      refine zA_go rfl rfl ?_
      exact zA_tr (L := [some (zrv x0), some (zI x1), some (zI x2), some (zI x3), none, none, none]) rfl rfl (zmS230_61 _ _ _ _ _ _ _ _ _ H)
def zm230_32 (x0 : zq) (x1 : Int32) (x2 : Int32) (x3 : Int32) (x4 : Int32) (x5 : Int32) (s0 : Int32) (h : zH) : zRs Unit :=
  zm230_33 (zm230_51) zN0 x0 x1 x2 x3 x4 x5 s0 h
theorem zmS230_32 : ∀ (x0 : zq) (x1 : Int32) (x2 : Int32) (x3 : Int32) (x4 : Int32) (x5 : Int32) (s0 : Int32) (h : zH) (r : Unit ⊕ Nat) (h' : zH), zm230_32 x0 x1 x2 x3 x4 x5 s0 h = some (r, h') → zAt 230 32 [some (zrv x0), some (zI x1), some (zI x2), some (zI x3), some (zI x4), some (zI x5), none] [zI s0] h (zoU r) h' := by
  intro x0 x1 x2 x3 x4 x5 s0 h r h' H
  unfold zm230_32 at H
  refine zA_ist2 rfl rfl rfl (zset1 (L' := [some (zrv x0), some (zI x1), some (zI x2), some (zI x3), some (zI x4), some (zI x5), some (zI s0)]) rfl rfl (zpcV rfl rfl)) ?_
  exact zA_tr (L := [some (zrv x0), some (zI x1), some (zI x2), some (zI x3), some (zI x4), some (zI x5), some (zI s0)]) rfl rfl (zmS230_33 (zmS230_51) zN0 _ _ _ _ _ _ _ _ _ _ H)
def zm230_26 (x0 : zq) (x1 : Int32) (x2 : Int32) (x3 : Int32) (x4 : Int32) (s0 : Int32) (h : zH) : zRs Unit :=
  if x4 = 0 then
    zm230_32 x0 x1 x2 x3 x4 s0 (-1 : Int32) h
  else
    zm230_32 x0 x1 x2 x3 x4 s0 x3 h
theorem zmS230_26 : ∀ (x0 : zq) (x1 : Int32) (x2 : Int32) (x3 : Int32) (x4 : Int32) (s0 : Int32) (h : zH) (r : Unit ⊕ Nat) (h' : zH), zm230_26 x0 x1 x2 x3 x4 s0 h = some (r, h') → zAt 230 26 [some (zrv x0), some (zI x1), some (zI x2), some (zI x3), some (zI x4), none, none] [zI s0] h (zoU r) h' := by
  intro x0 x1 x2 x3 x4 s0 h r h' H
  unfold zm230_26 at H
  refine zA_ist2 rfl rfl rfl (zset1 (L' := [some (zrv x0), some (zI x1), some (zI x2), some (zI x3), some (zI x4), some (zI s0), none]) rfl rfl (zpcV rfl rfl)) ?_
  refine zA_ld rfl rfl rfl ?_
  rcases zite_e H with ⟨c21, H⟩ | ⟨c21, H⟩
  · refine zA_brT (c := x4 = 0) rfl rfl rfl c21 ?_
    refine zA_push rfl rfl zkk6 ?_
    exact zA_tr (L := [some (zrv x0), some (zI x1), some (zI x2), some (zI x3), some (zI x4), some (zI s0), none]) rfl rfl (zmS230_32 _ _ _ _ _ _ _ _ _ _ H)
  · refine zA_brF (c := x4 = 0) rfl rfl rfl c21 ?_
    refine zA_ldn rfl rfl rfl ?_
    refine zA_go rfl rfl ?_
    exact zA_tr (L := [some (zrv x0), some (zI x1), some (zI x2), some (zI x3), some (zI x4), some (zI s0), none]) rfl rfl (zmS230_32 _ _ _ _ _ _ _ _ _ _ H)
def zm230_17 (x0 : zq) (x1 : Int32) (x2 : Int32) (x3 : Int32) (s0 : Int32) (h : zH) : zRs Unit :=
  if s0 = 0 then
    zm230_26 x0 x1 x2 x3 s0 (0 : Int32) h
  else
    if x3 = x1 then
      zm230_26 x0 x1 x2 x3 s0 (1 : Int32) h
    else
      zm230_26 x0 x1 x2 x3 s0 (0 : Int32) h
theorem zmS230_17 : ∀ (x0 : zq) (x1 : Int32) (x2 : Int32) (x3 : Int32) (s0 : Int32) (h : zH) (r : Unit ⊕ Nat) (h' : zH), zm230_17 x0 x1 x2 x3 s0 h = some (r, h') → zAt 230 17 [some (zrv x0), some (zI x1), some (zI x2), some (zI x3), none, none, none] [zI s0] h (zoU r) h' := by
  intro x0 x1 x2 x3 s0 h r h' H
  unfold zm230_17 at H
  refine zA_ist2 rfl rfl rfl (zset1 (L' := [some (zrv x0), some (zI x1), some (zI x2), some (zI x3), some (zI s0), none, none]) rfl rfl (zpcV rfl rfl)) ?_
  refine zA_ld rfl rfl rfl ?_
  rcases zite_e H with ⟨c21, H⟩ | ⟨c21, H⟩
  · refine zA_brT (c := s0 = 0) rfl rfl rfl c21 ?_
    refine zA_push rfl rfl zkk7 ?_
    exact zA_tr (L := [some (zrv x0), some (zI x1), some (zI x2), some (zI x3), some (zI s0), none, none]) rfl rfl (zmS230_26 _ _ _ _ _ _ _ _ _ H)
  · refine zA_brF (c := s0 = 0) rfl rfl rfl c21 ?_
    refine zA_ldn rfl rfl rfl ?_
    refine zA_ldn rfl rfl rfl ?_
    rcases zite_e H with ⟨c22, H⟩ | ⟨c22, H⟩
    · refine zA_brF' (c := x3 = x1) rfl rfl rfl c22 ?_
      refine zA_push rfl rfl zkk5 ?_
      refine zA_go rfl rfl ?_
      exact zA_tr (L := [some (zrv x0), some (zI x1), some (zI x2), some (zI x3), some (zI s0), none, none]) rfl rfl (zmS230_26 _ _ _ _ _ _ _ _ _ H)
    · refine zA_brT' (c := x3 = x1) rfl rfl rfl c22 ?_
      refine zA_push rfl rfl zkk7 ?_
      exact zA_tr (L := [some (zrv x0), some (zI x1), some (zI x2), some (zI x3), some (zI s0), none, none]) rfl rfl (zmS230_26 _ _ _ _ _ _ _ _ _ H)
-- 230: ReleaseHouseModel.flag(III)V
def zm230 (x0 : zq) (x1 : Int32) (x2 : Int32) (x3 : Int32) (h : zH) : zRs Unit :=
  zb (zm229 x1 h) fun x22 h21 =>
  if x22 = 0 then
    zm230_17 x0 x1 x2 x3 (0 : Int32) h21
  else
    zb (zm139 x2 (0 : Int32) (100 : Int32) h21) fun x25 h24 =>
    if x25 = 0 then
      zm230_17 x0 x1 x2 x3 (0 : Int32) h24
    else
      if x3 = (-1 : Int32) then
        zm230_17 x0 x1 x2 x3 (1 : Int32) h24
      else
        zb (zm229 x3 h24) fun x29 h28 =>
        if x29 = 0 then
          zm230_17 x0 x1 x2 x3 (0 : Int32) h28
        else
          zm230_17 x0 x1 x2 x3 (1 : Int32) h28
theorem zmS230 {x0 : zq} {x1 : Int32} {x2 : Int32} {x3 : Int32} {h : zH} {r : Unit ⊕ Nat} {h' : zH} (H : zm230 x0 x1 x2 x3 h = some (r, h')) : zAt 230 0 [some (zrv x0), some (zI x1), some (zI x2), some (zI x3), none, none, none] [] h (zoU r) h' := by
  unfold zm230 at H
  refine zA_ldn rfl rfl rfl ?_
  rcases zb_e H with ⟨x22, h21, C, H⟩ | ⟨E, h21, C, H⟩
  · refine zA_callV (as := [zI x1]) (st' := []) rfl rfl rfl rfl rfl (zmE229 _) rfl (zmS229 C) ?_
    rcases zite_e H with ⟨c23, H⟩ | ⟨c23, H⟩
    · refine zA_brT (c := x22 = 0) rfl rfl rfl c23 ?_
      refine zA_push rfl rfl zkk7 ?_
      exact zA_tr (L := [some (zrv x0), some (zI x1), some (zI x2), some (zI x3), none, none, none]) rfl rfl (zmS230_17 _ _ _ _ _ _ _ _ H)
    · refine zA_brF (c := x22 = 0) rfl rfl rfl c23 ?_
      refine zA_ldn rfl rfl rfl ?_
      refine zA_push rfl rfl zkk7 ?_
      refine zA_push rfl rfl zkk29 ?_
      rcases zb_e H with ⟨x25, h24, C, H⟩ | ⟨E, h24, C, H⟩
      · refine zA_callV (as := [zI x2, zI (0 : Int32), zI (100 : Int32)]) (st' := []) rfl rfl rfl rfl rfl (zmE139 _ _ _) rfl (zmS139 C) ?_
        rcases zite_e H with ⟨c26, H⟩ | ⟨c26, H⟩
        · refine zA_brT (c := x25 = 0) rfl rfl rfl c26 ?_
          refine zA_push rfl rfl zkk7 ?_
          exact zA_tr (L := [some (zrv x0), some (zI x1), some (zI x2), some (zI x3), none, none, none]) rfl rfl (zmS230_17 _ _ _ _ _ _ _ _ H)
        · refine zA_brF (c := x25 = 0) rfl rfl rfl c26 ?_
          refine zA_ldn rfl rfl rfl ?_
          refine zA_push rfl rfl zkk6 ?_
          rcases zite_e H with ⟨c27, H⟩ | ⟨c27, H⟩
          · refine zA_brT (c := x3 = (-1 : Int32)) rfl rfl rfl c27 ?_
            refine zA_push rfl rfl zkk5 ?_
            refine zA_go rfl rfl ?_
            exact zA_tr (L := [some (zrv x0), some (zI x1), some (zI x2), some (zI x3), none, none, none]) rfl rfl (zmS230_17 _ _ _ _ _ _ _ _ H)
          · refine zA_brF (c := x3 = (-1 : Int32)) rfl rfl rfl c27 ?_
            refine zA_ldn rfl rfl rfl ?_
            rcases zb_e H with ⟨x29, h28, C, H⟩ | ⟨E, h28, C, H⟩
            · refine zA_callV (as := [zI x3]) (st' := []) rfl rfl rfl rfl rfl (zmE229 _) rfl (zmS229 C) ?_
              rcases zite_e H with ⟨c30, H⟩ | ⟨c30, H⟩
              · refine zA_brT (c := x29 = 0) rfl rfl rfl c30 ?_
                refine zA_push rfl rfl zkk7 ?_
                exact zA_tr (L := [some (zrv x0), some (zI x1), some (zI x2), some (zI x3), none, none, none]) rfl rfl (zmS230_17 _ _ _ _ _ _ _ _ H)
              · refine zA_brF (c := x29 = 0) rfl rfl rfl c30 ?_
                refine zA_push rfl rfl zkk5 ?_
                refine zA_go rfl rfl ?_
                exact zA_tr (L := [some (zrv x0), some (zI x1), some (zI x2), some (zI x3), none, none, none]) rfl rfl (zmS230_17 _ _ _ _ _ _ _ _ H)
            · cases H
              exact zA_callX (as := [zI x3]) (st' := []) rfl rfl rfl rfl (zmE229 _) rfl rfl rfl (zmS229 C)
      · cases H
        exact zA_callX (as := [zI x2, zI (0 : Int32), zI (100 : Int32)]) (st' := []) rfl rfl rfl rfl (zmE139 _ _ _) rfl rfl rfl (zmS139 C)
  · cases H
    exact zA_callX (as := [zI x1]) (st' := []) rfl rfl rfl rfl (zmE229 _) rfl rfl rfl (zmS229 C)
theorem zmE230 (x0 : zq) (x1 : Int32) (x2 : Int32) (x3 : Int32) : zpad (zPr.2.1 230).1 (zil [zrv x0, zI x1, zI x2, zI x3]) = [some (zrv x0), some (zI x1), some (zI x2), some (zI x3), none, none, none] := by
  simp only [zil_A, zil_I, zil_F, zil_D, zil_N]
  rfl
-- 15: ReleaseHouse$Rule.<init>(IZII)V
def zm15 (x0 : zq) (x1 : Int32) (x2 : Int32) (x3 : Int32) (x4 : Int32) (h : zH) : zRs Unit :=
  znn x0 fun p21 i22 =>
  zob 6 x0 fun p25 i26 =>
  zlet (zsi h p25 i26 0 x1) fun h29 =>
  zif (x2 = 0 ∨ x2 = 1) <|
  zlet (zsi h29 p25 i26 1 x2) fun h31 =>
  zlet (zsi h31 p25 i26 2 x3) fun h34 =>
  zlet (zsi h34 p25 i26 3 x4) fun h36 =>
  some (.inl (), h36)
theorem zmS15 {x0 : zq} {x1 : Int32} {x2 : Int32} {x3 : Int32} {x4 : Int32} {h : zH} {r : Unit ⊕ Nat} {h' : zH} (H : zm15 x0 x1 x2 x3 x4 h = some (r, h')) : zAt 15 0 [some (zrv x0), some (zI x1), some (zI x2), some (zI x3), some (zI x4)] [] h (zoU r) h' := by
  unfold zm15 at H
  refine zA_aldn rfl rfl rfl ?_
  obtain ⟨p21, i22, e23, H⟩ := znn_e H
  refine zA_l0 rfl rfl rfl e23 ?_
  refine zA_aldn rfl rfl rfl ?_
  refine zA_ldn rfl rfl rfl ?_
  obtain ⟨p25, i26, e27, c28, H⟩ := zob_e H
  obtain ⟨h29, e30, H⟩ := zlet_e H
  refine zA_pf0 rfl rfl e27 c28 e30 ?_
  refine zA_aldn rfl rfl rfl ?_
  refine zA_ldn rfl rfl rfl ?_
  obtain ⟨c33, H⟩ := zif_e H
  obtain ⟨h31, e32, H⟩ := zlet_e H
  refine zA_pf1 rfl rfl e27 c28 c33 e32 ?_
  refine zA_aldn rfl rfl rfl ?_
  refine zA_ldn rfl rfl rfl ?_
  obtain ⟨h34, e35, H⟩ := zlet_e H
  refine zA_pf0 rfl rfl e27 c28 e35 ?_
  refine zA_aldn rfl rfl rfl ?_
  refine zA_ld rfl rfl rfl ?_
  obtain ⟨h36, e37, H⟩ := zlet_e H
  refine zA_pf0 rfl rfl e27 c28 e37 ?_
  cases H
  exact zA_ret rfl rfl
theorem zmE15 (x0 : zq) (x1 : Int32) (x2 : Int32) (x3 : Int32) (x4 : Int32) : zpad (zPr.2.1 15).1 (zil [zrv x0, zI x1, zI x2, zI x3, zI x4]) = [some (zrv x0), some (zI x1), some (zI x2), some (zI x3), some (zI x4)] := by
  simp only [zil_A, zil_I, zil_F, zil_D, zil_N]
  rfl
-- 117: ReleaseHouse.target(IIZII)I
def zm117 (x0 : zq) (x1 : Int32) (x2 : Int32) (x3 : Int32) (x4 : Int32) (x5 : Int32) (h : zH) : zRs Int32 :=
  zb (zm131 x1 (0 : Int32) (7 : Int32) h) fun _ h21 =>
  zb (zm131 x2 (0 : Int32) (2 : Int32) h21) fun _ h22 =>
  zb (zm131 x4 (0 : Int32) (6 : Int32) h22) fun _ h23 =>
  zb (zm131 x5 (0 : Int32) (100 : Int32) h23) fun _ h24 =>
  zob 11 x0 fun p25 i26 =>
  zra (zr h24 p25 i26 7) x1 h24 fun v36 =>
  zob 2 v36 fun p38 i39 =>
  zlet (zr h24 p38 i39 0) fun x42 =>
  zlz x42 h24 fun v49 =>
  if v49 < (4 : Int32) then
    zlet (znw h24 6 0 4) fun h52 =>
    zob 6 (some (6, zct h24 6)) fun p54 i55 =>
    zb2 (zm15 (some (6, zct h24 6)) x2 x3 x4 x5 h52) fun _ h58 =>
    znn x42 fun p59 i60 =>
    znn (some (6, zct h24 6)) fun p66 i67 =>
    zif ((ztg p59 == 9 && ztg p66 == 0 && (zkc p66 == zel p59 && zelB h58 p59 i60)) = true) <|
    zif (zi h58 p59 i60 1 = 1 ∧ zln h58 p59 i60 < 33) <|
    zlet (zladd h58 p59 i60 p66 i67) fun h64 =>
    zlz x42 h64 fun v74 =>
    some (.inl v74, h64)
  else
    some (.inr 1, zro h24 1 6)
theorem zmS117 {x0 : zq} {x1 : Int32} {x2 : Int32} {x3 : Int32} {x4 : Int32} {x5 : Int32} {h : zH} {r : Int32 ⊕ Nat} {h' : zH} (H : zm117 x0 x1 x2 x3 x4 x5 h = some (r, h')) : zAt 117 0 [some (zrv x0), some (zI x1), some (zI x2), some (zI x3), some (zI x4), some (zI x5), none] [] h (zoI r) h' := by
  unfold zm117 at H
  refine zA_ldn rfl rfl rfl ?_
  refine zA_push rfl rfl zkk7 ?_
  refine zA_push rfl rfl zkk22 ?_
  rcases zb_e H with ⟨u80, h21, C, H⟩ | ⟨E, h21, C, H⟩
  · refine zA_callU (as := [zI x1, zI (0 : Int32), zI (7 : Int32)]) (st' := []) rfl rfl rfl rfl rfl (zmE131 _ _ _) rfl (zmS131 C) ?_
    refine zA_ldn rfl rfl rfl ?_
    refine zA_push rfl rfl zkk7 ?_
    refine zA_push rfl rfl zkk23 ?_
    rcases zb_e H with ⟨u79, h22, C, H⟩ | ⟨E, h22, C, H⟩
    · refine zA_callU (as := [zI x2, zI (0 : Int32), zI (2 : Int32)]) (st' := []) rfl rfl rfl rfl rfl (zmE131 _ _ _) rfl (zmS131 C) ?_
      refine zA_ld rfl rfl rfl ?_
      refine zA_push rfl rfl zkk7 ?_
      refine zA_push rfl rfl zkk14 ?_
      rcases zb_e H with ⟨u78, h23, C, H⟩ | ⟨E, h23, C, H⟩
      · refine zA_callU (as := [zI x4, zI (0 : Int32), zI (6 : Int32)]) (st' := []) rfl rfl rfl rfl rfl (zmE131 _ _ _) rfl (zmS131 C) ?_
        refine zA_ld rfl rfl rfl ?_
        refine zA_push rfl rfl zkk7 ?_
        refine zA_push rfl rfl zkk29 ?_
        rcases zb_e H with ⟨u77, h24, C, H⟩ | ⟨E, h24, C, H⟩
        · refine zA_callU (as := [zI x5, zI (0 : Int32), zI (100 : Int32)]) (st' := []) rfl rfl rfl rfl rfl (zmE131 _ _ _) rfl (zmS131 C) ?_
          refine zA_aldn rfl rfl rfl ?_
          obtain ⟨p25, i26, e27, c28, H⟩ := zob_e H
          refine zA_gf3 rfl rfl e27 c28 ?_
          refine zA_ldn rfl rfl rfl ?_
          obtain ⟨p29, i30, j31, v36, e32, c33, c34, e35, e37, H⟩ := zra_e H
          refine zA_aal rfl rfl e32 c33 c34 e35 e37 ?_
          obtain ⟨p38, i39, e40, c41, H⟩ := zob_e H
          refine zA_gf3 rfl rfl e40 c41 ?_
          obtain ⟨x42, e43, H⟩ := zlet_e H
          refine zA_ast2 rfl rfl e43 (zset1 (L' := [some (zrv x0), some (zI x1), some (zI x2), some (zI x3), some (zI x4), some (zI x5), some (zrv x42)]) (zcat_rv _) rfl (zpcV rfl rfl)) ?_
          refine zA_ald rfl rfl rfl ?_
          obtain ⟨p44, i45, v49, e46, c47, c48, e50, H⟩ := zlz_e H
          refine zA_l2 rfl rfl rfl e46 c47 c48 e50 ?_
          refine zA_push rfl rfl zkk9 ?_
          rcases zite_e H with ⟨c51, H⟩ | ⟨c51, H⟩
          · refine zA_brT (c := v49 < (4 : Int32)) rfl rfl rfl c51 ?_
            refine zA_tr (L := [none, none, some (zI x2), some (zI x3), some (zI x4), some (zI x5), some (zrv x42)]) rfl rfl ?_
            refine zA_ald rfl rfl rfl ?_
            obtain ⟨h52, e53, H⟩ := zlet_e H
            refine zA_new (n := 4) rfl rfl (fun _ _ _ _ => rfl) e53 ?_
            refine zA_dup rfl rfl (zcat_rv _) ?_
            refine zA_ldn rfl rfl rfl ?_
            refine zA_ldn rfl rfl rfl ?_
            refine zA_ld rfl rfl rfl ?_
            refine zA_ld rfl rfl rfl ?_
            obtain ⟨p54, i55, e56, c57, H⟩ := zob_e H
            obtain ⟨u76, h58, C, H⟩ := zb2_e H
            refine zA_callU (as := [zrv (some (6, zct h24 6)), zI x2, zI x3, zI x4, zI x5]) (st' := [zrv (some (6, zct h24 6)), zrv x42]) rfl rfl rfl (zrcv_Q e56 c57) rfl (zmE15 _ _ _ _ _) rfl (zmS15 C) ?_
            obtain ⟨p59, i60, e61, H⟩ := znn_e H
            obtain ⟨p66, i67, e68, H⟩ := znn_e H
            obtain ⟨c62, H⟩ := zif_e H
            obtain ⟨c63, H⟩ := zif_e H
            obtain ⟨h64, e65, H⟩ := zlet_e H
            refine zA_l4 rfl rfl rfl e61 e68 c62 c63 e65 ?_
            refine zA_pop rfl rfl rfl ?_
            refine zA_ald rfl rfl rfl ?_
            obtain ⟨p69, i70, v74, e71, c72, c73, e75, H⟩ := zlz_e H
            refine zA_l2 rfl rfl rfl e71 c72 c73 e75 ?_
            cases H
            exact zA_ret rfl rfl
          · refine zA_brF (c := v49 < (4 : Int32)) rfl rfl rfl c51 ?_
            cases H
            exact zA_thr rfl rfl
        · cases H
          exact zA_callX (as := [zI x5, zI (0 : Int32), zI (100 : Int32)]) (st' := []) rfl rfl rfl rfl (zmE131 _ _ _) rfl rfl rfl (zmS131 C)
      · cases H
        exact zA_callX (as := [zI x4, zI (0 : Int32), zI (6 : Int32)]) (st' := []) rfl rfl rfl rfl (zmE131 _ _ _) rfl rfl rfl (zmS131 C)
    · cases H
      exact zA_callX (as := [zI x2, zI (0 : Int32), zI (2 : Int32)]) (st' := []) rfl rfl rfl rfl (zmE131 _ _ _) rfl rfl rfl (zmS131 C)
  · cases H
    exact zA_callX (as := [zI x1, zI (0 : Int32), zI (7 : Int32)]) (st' := []) rfl rfl rfl rfl (zmE131 _ _ _) rfl rfl rfl (zmS131 C)
theorem zmE117 (x0 : zq) (x1 : Int32) (x2 : Int32) (x3 : Int32) (x4 : Int32) (x5 : Int32) : zpad (zPr.2.1 117).1 (zil [zrv x0, zI x1, zI x2, zI x3, zI x4, zI x5]) = [some (zrv x0), some (zI x1), some (zI x2), some (zI x3), some (zI x4), some (zI x5), none] := by
  simp only [zil_A, zil_I, zil_F, zil_D, zil_N]
  rfl
-- 284: ReleaseHouseLaw.target(LReleaseHouse;IIZII[J)I
def zm284 (x0 : zq) (x1 : Int32) (x2 : Int32) (x3 : Int32) (x4 : Int32) (x5 : Int32) (x6 : zq) (h : zH) : zRs Int32 :=
  zob 11 x0 fun p21 i22 =>
  zbH [(0, 11, 0, 1), (0, 11, 1, 2)] 8 (zm117 x0 x1 x2 x3 x4 x5 h) fun x26 h25 =>
  zar 3 x6 (0 : Int32) h25 fun p27 i28 j29 =>
  zlet (zsl h25 p27 i28 j29 (x26.toInt64)) fun h34 =>
  some (.inl (0 : Int32), h34)
theorem zmS284 {x0 : zq} {x1 : Int32} {x2 : Int32} {x3 : Int32} {x4 : Int32} {x5 : Int32} {x6 : zq} {h : zH} {r : Int32 ⊕ Nat} {h' : zH} (H : zm284 x0 x1 x2 x3 x4 x5 x6 h = some (r, h')) : zAt 284 0 [some (zrv x0), some (zI x1), some (zI x2), some (zI x3), some (zI x4), some (zI x5), some (zrv x6), none] [] h (zoI r) h' := by
  unfold zm284 at H
  refine zA_ald rfl rfl rfl ?_
  refine zA_push rfl rfl zkk7 ?_
  refine zA_aldn rfl rfl rfl ?_
  refine zA_ldn rfl rfl rfl ?_
  refine zA_ldn rfl rfl rfl ?_
  refine zA_ldn rfl rfl rfl ?_
  refine zA_ld rfl rfl rfl ?_
  refine zA_ld rfl rfl rfl ?_
  obtain ⟨p21, i22, e23, c24, H⟩ := zob_e H
  rcases zbH_e H with ⟨x26, h25, C, H⟩ | ⟨E, h25, c36, C, hc, H⟩
  · refine zA_callV (as := [zrv x0, zI x1, zI x2, zI x3, zI x4, zI x5]) (st' := [zI (0 : Int32), zrv x6]) rfl rfl rfl (zrcv_Q e23 c24) rfl (zmE117 _ _ _ _ _ _) rfl (zmS117 C) ?_
    refine zA_st (st' := [zJ (x26.toInt64), zI (0 : Int32), zrv x6]) rfl rfl rfl rfl ?_
    obtain ⟨p27, i28, j29, e30, c31, c32, e33, H⟩ := zar_e H
    obtain ⟨h34, e35, H⟩ := zlet_e H
    refine zA_las rfl rfl e30 c31 c32 e33 e35 ?_
    refine zA_go rfl rfl ?_
    refine zA_tr (L := [none, none, none, none, none, none, none, none]) rfl rfl ?_
    refine zA_push rfl rfl zkk7 ?_
    cases H
    exact zA_ret rfl rfl
  · cases H
    exact zA_callH (as := [zrv x0, zI x1, zI x2, zI x3, zI x4, zI x5]) (st' := [zI (0 : Int32), zrv x6]) rfl rfl (zrcv_Q e23 c24) rfl (zmE117 _ _ _ _ _ _) rfl rfl rfl (List.cons_ne_nil _ _) hc (zmS117 C)
theorem zmE284 (x0 : zq) (x1 : Int32) (x2 : Int32) (x3 : Int32) (x4 : Int32) (x5 : Int32) (x6 : zq) : zpad (zPr.2.1 284).1 (zil [zrv x0, zI x1, zI x2, zI x3, zI x4, zI x5, zrv x6]) = [some (zrv x0), some (zI x1), some (zI x2), some (zI x3), some (zI x4), some (zI x5), some (zrv x6), none] := by
  simp only [zil_A, zil_I, zil_F, zil_D, zil_N]
  rfl
def zm231_36 (x0 : zq) (x1 : Int32) (x2 : Int32) (x3 : Int32) (x4 : Int32) (x5 : Int32) (s0 : zq) (s1 : Int32) (h : zH) : zRs Int32 :=
  zob 12 s0 fun p21 i22 =>
  zlet (zsi h p21 i22 0 s1) fun h25 =>
  zob 12 x0 fun p27 i28 =>
  if (zi h25 p27 i28 0) ≤ 0 then
    zri (zr h25 p27 i28 65) x1 h25 fun v39 =>
    zlet (((4 : Int32) * x1) + v39) fun x41 =>
    zar 1 (zr h25 p27 i28 66) x41 h25 fun p43 i44 j45 =>
    zlet (zsi h25 p43 i44 j45 x2) fun h50 =>
    zar 2 (zr h50 p27 i28 67) x41 h50 fun p52 i53 j54 =>
    zif (x3 = 0 ∨ x3 = 1) <|
    zlet (zsi h50 p52 i53 j54 x3) fun h59 =>
    zar 1 (zr h59 p27 i28 68) x41 h59 fun p62 i63 j64 =>
    zlet (zsi h59 p62 i63 j64 x4) fun h69 =>
    zar 1 (zr h69 p27 i28 69) x41 h69 fun p71 i72 j73 =>
    zlet (zsi h69 p71 i72 j73 x5) fun h78 =>
    zri (zr h78 p27 i28 65) x1 h78 fun v87 =>
    zar 1 (zr h78 p27 i28 65) x1 h78 fun p89 i90 j91 =>
    zlet (zsi h78 p89 i90 j91 (v87 + (1 : Int32))) fun h96 =>
    zri (zr h96 p27 i28 65) x1 h96 fun v105 =>
    some (.inl v105, h96)
  else
    some (.inl (0 : Int32), h25)
theorem zmS231_36 : ∀ (x0 : zq) (x1 : Int32) (x2 : Int32) (x3 : Int32) (x4 : Int32) (x5 : Int32) (s0 : zq) (s1 : Int32) (h : zH) (r : Int32 ⊕ Nat) (h' : zH), zm231_36 x0 x1 x2 x3 x4 x5 s0 s1 h = some (r, h') → zAt 231 36 [some (zrv x0), some (zI x1), some (zI x2), some (zI x3), some (zI x4), some (zI x5), none, none] [zI s1, zrv s0] h (zoI r) h' := by
  intro x0 x1 x2 x3 x4 x5 s0 s1 h r h' H
  unfold zm231_36 at H
  obtain ⟨p21, i22, e23, c24, H⟩ := zob_e H
  obtain ⟨h25, e26, H⟩ := zlet_e H
  refine zA_pf0 rfl rfl e23 c24 e26 ?_
  refine zA_aldn rfl rfl rfl ?_
  obtain ⟨p27, i28, e29, c30, H⟩ := zob_e H
  refine zA_gf0 rfl rfl (Or.inl rfl) e29 c30 ?_
  rcases zite_e H with ⟨c31, H⟩ | ⟨c31, H⟩
  · refine zA_brT (c := (zi h25 p27 i28 0) ≤ 0) rfl rfl rfl c31 ?_
    refine zA_push rfl rfl zkk9 ?_
    refine zA_ldn rfl rfl rfl ?_
    refine zA_st (st' := [zI ((4 : Int32) * x1)]) rfl rfl rfl rfl ?_
    refine zA_aldn rfl rfl rfl ?_
    refine zA_gf3 rfl rfl e29 c30 ?_
    refine zA_ldn rfl rfl rfl ?_
    obtain ⟨p32, i33, j34, v39, e35, c36, c37, e38, e40, H⟩ := zri_e H
    refine zA_ial rfl rfl e35 c36 c37 e38 e40 ?_
    refine zA_st (st' := [zI (((4 : Int32) * x1) + v39)]) rfl rfl rfl rfl ?_
    obtain ⟨x41, e42, H⟩ := zlet_e H
    refine zA_ist2 rfl rfl e42 (zset1 (L' := [some (zrv x0), some (zI x1), some (zI x2), some (zI x3), some (zI x4), some (zI x5), none, some (zI x41)]) rfl rfl (zpcN rfl)) ?_
    refine zA_aldn rfl rfl rfl ?_
    refine zA_gf3 rfl rfl e29 c30 ?_
    refine zA_ld rfl rfl rfl ?_
    refine zA_ldn rfl rfl rfl ?_
    obtain ⟨p43, i44, j45, e46, c47, c48, e49, H⟩ := zar_e H
    obtain ⟨h50, e51, H⟩ := zlet_e H
    refine zA_ias rfl rfl e46 c47 c48 e49 e51 ?_
    refine zA_aldn rfl rfl rfl ?_
    refine zA_gf3 rfl rfl e29 c30 ?_
    refine zA_ld rfl rfl rfl ?_
    refine zA_ldn rfl rfl rfl ?_
    obtain ⟨p52, i53, j54, e55, c56, c57, e58, H⟩ := zar_e H
    obtain ⟨c61, H⟩ := zif_e H
    obtain ⟨h59, e60, H⟩ := zlet_e H
    refine zA_bas rfl rfl e55 c56 c57 e58 c61 e60 ?_
    refine zA_aldn rfl rfl rfl ?_
    refine zA_gf3 rfl rfl e29 c30 ?_
    refine zA_ld rfl rfl rfl ?_
    refine zA_ld rfl rfl rfl ?_
    obtain ⟨p62, i63, j64, e65, c66, c67, e68, H⟩ := zar_e H
    obtain ⟨h69, e70, H⟩ := zlet_e H
    refine zA_ias rfl rfl e65 c66 c67 e68 e70 ?_
    refine zA_aldn rfl rfl rfl ?_
    refine zA_gf3 rfl rfl e29 c30 ?_
    refine zA_ld rfl rfl rfl ?_
    refine zA_ld rfl rfl rfl ?_
    obtain ⟨p71, i72, j73, e74, c75, c76, e77, H⟩ := zar_e H
    obtain ⟨h78, e79, H⟩ := zlet_e H
    refine zA_ias rfl rfl e74 c75 c76 e77 e79 ?_
    refine zA_aldn rfl rfl rfl ?_
    refine zA_gf3 rfl rfl e29 c30 ?_
    refine zA_ldn rfl rfl rfl ?_
    refine zA_dup2 rfl rfl rfl (zcat_rv _) ?_
    obtain ⟨p80, i81, j82, v87, e83, c84, c85, e86, e88, H⟩ := zri_e H
    refine zA_ial rfl rfl e83 c84 c85 e86 e88 ?_
    refine zA_push rfl rfl zkk5 ?_
    refine zA_st (st' := [zI (v87 + (1 : Int32)), zI x1, zrv (zr h78 p27 i28 65)]) rfl rfl rfl rfl ?_
    obtain ⟨p89, i90, j91, e92, c93, c94, e95, H⟩ := zar_e H
    obtain ⟨h96, e97, H⟩ := zlet_e H
    refine zA_ias rfl rfl e92 c93 c94 e95 e97 ?_
    refine zA_aldn rfl rfl rfl ?_
    refine zA_gf3 rfl rfl e29 c30 ?_
    refine zA_ldn rfl rfl rfl ?_
    obtain ⟨p98, i99, j100, v105, e101, c102, c103, e104, e106, H⟩ := zri_e H
    refine zA_ial rfl rfl e101 c102 c103 e104 e106 ?_
    cases H
    exact zA_ret rfl rfl
  · refine zA_brF (c := (zi h25 p27 i28 0) ≤ 0) rfl rfl rfl c31 ?_
    refine zA_push rfl rfl zkk7 ?_
    cases H
    exact zA_ret rfl rfl
def zm231_21 (x0 : zq) (x1 : Int32) (x2 : Int32) (x3 : Int32) (x4 : Int32) (x5 : Int32) (s0 : Int32) (h : zH) : zRs Int32 :=
  if s0 = 0 then
    zm231_36 x0 x1 x2 x3 x4 x5 x0 (1 : Int32) h
  else
    zob 12 x0 fun p22 i23 =>
    zri (zr h p22 i23 65) x1 h fun v33 =>
    if v33 = (4 : Int32) then
      zm231_36 x0 x1 x2 x3 x4 x5 x0 (2 : Int32) h
    else
      zm231_36 x0 x1 x2 x3 x4 x5 x0 (0 : Int32) h
theorem zmS231_21 : ∀ (x0 : zq) (x1 : Int32) (x2 : Int32) (x3 : Int32) (x4 : Int32) (x5 : Int32) (s0 : Int32) (h : zH) (r : Int32 ⊕ Nat) (h' : zH), zm231_21 x0 x1 x2 x3 x4 x5 s0 h = some (r, h') → zAt 231 21 [some (zrv x0), some (zI x1), some (zI x2), some (zI x3), some (zI x4), some (zI x5), none, none] [zI s0] h (zoI r) h' := by
  intro x0 x1 x2 x3 x4 x5 s0 h r h' H
  unfold zm231_21 at H
  refine zA_ist2 rfl rfl rfl (zset1 (L' := [some (zrv x0), some (zI x1), some (zI x2), some (zI x3), some (zI x4), some (zI x5), some (zI s0), none]) rfl rfl (zpcV rfl rfl)) ?_
  refine zA_aldn rfl rfl rfl ?_
  refine zA_ld rfl rfl rfl ?_
  rcases zite_e H with ⟨c21, H⟩ | ⟨c21, H⟩
  · refine zA_brF' (c := s0 = 0) rfl rfl rfl c21 ?_
    refine zA_push rfl rfl zkk5 ?_
    refine zA_go rfl rfl ?_
    exact zA_tr (L := [some (zrv x0), some (zI x1), some (zI x2), some (zI x3), some (zI x4), some (zI x5), none, none]) rfl rfl (zmS231_36 _ _ _ _ _ _ _ _ _ _ _ H)
  · refine zA_brT' (c := s0 = 0) rfl rfl rfl c21 ?_
    refine zA_tr (L := [some (zrv x0), some (zI x1), some (zI x2), some (zI x3), some (zI x4), some (zI x5), none, none]) rfl rfl ?_
    refine zA_aldn rfl rfl rfl ?_
    obtain ⟨p22, i23, e24, c25, H⟩ := zob_e H
    refine zA_gf3 rfl rfl e24 c25 ?_
    refine zA_ldn rfl rfl rfl ?_
    obtain ⟨p26, i27, j28, v33, e29, c30, c31, e32, e34, H⟩ := zri_e H
    refine zA_ial rfl rfl e29 c30 c31 e32 e34 ?_
    refine zA_push rfl rfl zkk9 ?_
    rcases zite_e H with ⟨c35, H⟩ | ⟨c35, H⟩
    · refine zA_brF' (c := v33 = (4 : Int32)) rfl rfl rfl c35 ?_
      refine zA_push rfl rfl zkk23 ?_
      refine zA_go rfl rfl ?_
      exact zA_tr (L := [some (zrv x0), some (zI x1), some (zI x2), some (zI x3), some (zI x4), some (zI x5), none, none]) rfl rfl (zmS231_36 _ _ _ _ _ _ _ _ _ _ _ H)
    · refine zA_brT' (c := v33 = (4 : Int32)) rfl rfl rfl c35 ?_
      refine zA_push rfl rfl zkk7 ?_
      exact zA_tr (L := [some (zrv x0), some (zI x1), some (zI x2), some (zI x3), some (zI x4), some (zI x5), none, none]) rfl rfl (zmS231_36 _ _ _ _ _ _ _ _ _ _ _ H)
-- 231: ReleaseHouseModel.target(IIZII)I
def zm231 (x0 : zq) (x1 : Int32) (x2 : Int32) (x3 : Int32) (x4 : Int32) (x5 : Int32) (h : zH) : zRs Int32 :=
  zb (zm229 x1 h) fun x22 h21 =>
  if x22 = 0 then
    zm231_21 x0 x1 x2 x3 x4 x5 (0 : Int32) h21
  else
    zb (zm139 x2 (0 : Int32) (2 : Int32) h21) fun x25 h24 =>
    if x25 = 0 then
      zm231_21 x0 x1 x2 x3 x4 x5 (0 : Int32) h24
    else
      zb (zm139 x4 (0 : Int32) (6 : Int32) h24) fun x28 h27 =>
      if x28 = 0 then
        zm231_21 x0 x1 x2 x3 x4 x5 (0 : Int32) h27
      else
        zb (zm139 x5 (0 : Int32) (100 : Int32) h27) fun x31 h30 =>
        if x31 = 0 then
          zm231_21 x0 x1 x2 x3 x4 x5 (0 : Int32) h30
        else
          zm231_21 x0 x1 x2 x3 x4 x5 (1 : Int32) h30
theorem zmS231 {x0 : zq} {x1 : Int32} {x2 : Int32} {x3 : Int32} {x4 : Int32} {x5 : Int32} {h : zH} {r : Int32 ⊕ Nat} {h' : zH} (H : zm231 x0 x1 x2 x3 x4 x5 h = some (r, h')) : zAt 231 0 [some (zrv x0), some (zI x1), some (zI x2), some (zI x3), some (zI x4), some (zI x5), none, none] [] h (zoI r) h' := by
  unfold zm231 at H
  refine zA_ldn rfl rfl rfl ?_
  rcases zb_e H with ⟨x22, h21, C, H⟩ | ⟨E, h21, C, H⟩
  · refine zA_callV (as := [zI x1]) (st' := []) rfl rfl rfl rfl rfl (zmE229 _) rfl (zmS229 C) ?_
    rcases zite_e H with ⟨c23, H⟩ | ⟨c23, H⟩
    · refine zA_brT (c := x22 = 0) rfl rfl rfl c23 ?_
      refine zA_push rfl rfl zkk7 ?_
      exact zA_tr (L := [some (zrv x0), some (zI x1), some (zI x2), some (zI x3), some (zI x4), some (zI x5), none, none]) rfl rfl (zmS231_21 _ _ _ _ _ _ _ _ _ _ H)
    · refine zA_brF (c := x22 = 0) rfl rfl rfl c23 ?_
      refine zA_ldn rfl rfl rfl ?_
      refine zA_push rfl rfl zkk7 ?_
      refine zA_push rfl rfl zkk23 ?_
      rcases zb_e H with ⟨x25, h24, C, H⟩ | ⟨E, h24, C, H⟩
      · refine zA_callV (as := [zI x2, zI (0 : Int32), zI (2 : Int32)]) (st' := []) rfl rfl rfl rfl rfl (zmE139 _ _ _) rfl (zmS139 C) ?_
        rcases zite_e H with ⟨c26, H⟩ | ⟨c26, H⟩
        · refine zA_brT (c := x25 = 0) rfl rfl rfl c26 ?_
          refine zA_push rfl rfl zkk7 ?_
          exact zA_tr (L := [some (zrv x0), some (zI x1), some (zI x2), some (zI x3), some (zI x4), some (zI x5), none, none]) rfl rfl (zmS231_21 _ _ _ _ _ _ _ _ _ _ H)
        · refine zA_brF (c := x25 = 0) rfl rfl rfl c26 ?_
          refine zA_ld rfl rfl rfl ?_
          refine zA_push rfl rfl zkk7 ?_
          refine zA_push rfl rfl zkk14 ?_
          rcases zb_e H with ⟨x28, h27, C, H⟩ | ⟨E, h27, C, H⟩
          · refine zA_callV (as := [zI x4, zI (0 : Int32), zI (6 : Int32)]) (st' := []) rfl rfl rfl rfl rfl (zmE139 _ _ _) rfl (zmS139 C) ?_
            rcases zite_e H with ⟨c29, H⟩ | ⟨c29, H⟩
            · refine zA_brT (c := x28 = 0) rfl rfl rfl c29 ?_
              refine zA_push rfl rfl zkk7 ?_
              exact zA_tr (L := [some (zrv x0), some (zI x1), some (zI x2), some (zI x3), some (zI x4), some (zI x5), none, none]) rfl rfl (zmS231_21 _ _ _ _ _ _ _ _ _ _ H)
            · refine zA_brF (c := x28 = 0) rfl rfl rfl c29 ?_
              refine zA_ld rfl rfl rfl ?_
              refine zA_push rfl rfl zkk7 ?_
              refine zA_push rfl rfl zkk29 ?_
              rcases zb_e H with ⟨x31, h30, C, H⟩ | ⟨E, h30, C, H⟩
              · refine zA_callV (as := [zI x5, zI (0 : Int32), zI (100 : Int32)]) (st' := []) rfl rfl rfl rfl rfl (zmE139 _ _ _) rfl (zmS139 C) ?_
                rcases zite_e H with ⟨c32, H⟩ | ⟨c32, H⟩
                · refine zA_brT (c := x31 = 0) rfl rfl rfl c32 ?_
                  refine zA_push rfl rfl zkk7 ?_
                  exact zA_tr (L := [some (zrv x0), some (zI x1), some (zI x2), some (zI x3), some (zI x4), some (zI x5), none, none]) rfl rfl (zmS231_21 _ _ _ _ _ _ _ _ _ _ H)
                · refine zA_brF (c := x31 = 0) rfl rfl rfl c32 ?_
                  refine zA_push rfl rfl zkk5 ?_
                  refine zA_go rfl rfl ?_
                  exact zA_tr (L := [some (zrv x0), some (zI x1), some (zI x2), some (zI x3), some (zI x4), some (zI x5), none, none]) rfl rfl (zmS231_21 _ _ _ _ _ _ _ _ _ _ H)
              · cases H
                exact zA_callX (as := [zI x5, zI (0 : Int32), zI (100 : Int32)]) (st' := []) rfl rfl rfl rfl (zmE139 _ _ _) rfl rfl rfl (zmS139 C)
          · cases H
            exact zA_callX (as := [zI x4, zI (0 : Int32), zI (6 : Int32)]) (st' := []) rfl rfl rfl rfl (zmE139 _ _ _) rfl rfl rfl (zmS139 C)
      · cases H
        exact zA_callX (as := [zI x2, zI (0 : Int32), zI (2 : Int32)]) (st' := []) rfl rfl rfl rfl (zmE139 _ _ _) rfl rfl rfl (zmS139 C)
  · cases H
    exact zA_callX (as := [zI x1]) (st' := []) rfl rfl rfl rfl (zmE229 _) rfl rfl rfl (zmS229 C)
theorem zmE231 (x0 : zq) (x1 : Int32) (x2 : Int32) (x3 : Int32) (x4 : Int32) (x5 : Int32) : zpad (zPr.2.1 231).1 (zil [zrv x0, zI x1, zI x2, zI x3, zI x4, zI x5]) = [some (zrv x0), some (zI x1), some (zI x2), some (zI x3), some (zI x4), some (zI x5), none, none] := by
  simp only [zil_A, zil_I, zil_F, zil_D, zil_N]
  rfl
def zm118_17 (x0 : zq) (x1 : Int32) (s0 : zq) (s1 : Int32) (h : zH) : zRs Int32 :=
  zob 2 s0 fun p21 i22 =>
  zif (s1 = 0 ∨ s1 = 1) <|
  zlet (zsi h p21 i22 3 s1) fun h25 =>
  zob 11 x0 fun p28 i29 =>
  zra (zr h25 p28 i29 7) x1 h25 fun v39 =>
  zob 2 v39 fun p41 i42 =>
  zif ((zi h25 p41 i42 3) = 0 ∨ (zi h25 p41 i42 3) = 1) <|
  some (.inl (zi h25 p41 i42 3), h25)
theorem zmS118_17 : ∀ (x0 : zq) (x1 : Int32) (s0 : zq) (s1 : Int32) (h : zH) (r : Int32 ⊕ Nat) (h' : zH), zm118_17 x0 x1 s0 s1 h = some (r, h') → zAt 118 17 [some (zrv x0), some (zI x1)] [zI s1, zrv s0] h (zoI r) h' := by
  intro x0 x1 s0 s1 h r h' H
  unfold zm118_17 at H
  obtain ⟨p21, i22, e23, c24, H⟩ := zob_e H
  obtain ⟨c27, H⟩ := zif_e H
  obtain ⟨h25, e26, H⟩ := zlet_e H
  refine zA_pf1 rfl rfl e23 c24 c27 e26 ?_
  refine zA_aldn rfl rfl rfl ?_
  obtain ⟨p28, i29, e30, c31, H⟩ := zob_e H
  refine zA_gf3 rfl rfl e30 c31 ?_
  refine zA_ldn rfl rfl rfl ?_
  obtain ⟨p32, i33, j34, v39, e35, c36, c37, e38, e40, H⟩ := zra_e H
  refine zA_aal rfl rfl e35 c36 c37 e38 e40 ?_
  obtain ⟨p41, i42, e43, c44, H⟩ := zob_e H
  refine zA_gf0 rfl rfl (Or.inr rfl) e43 c44 ?_
  obtain ⟨c45, H⟩ := zif_e H
  cases H
  exact zA_ret rfl (zret_Z c45)
-- 118: ReleaseHouse.kill(I)Z
def zm118 (x0 : zq) (x1 : Int32) (h : zH) : zRs Int32 :=
  zb (zm131 x1 (0 : Int32) (7 : Int32) h) fun _ h21 =>
  zob 11 x0 fun p22 i23 =>
  zra (zr h21 p22 i23 7) x1 h21 fun v33 =>
  zra (zr h21 p22 i23 7) x1 h21 fun v42 =>
  zob 2 v42 fun p44 i45 =>
  if (zi h21 p44 i45 3) = 0 then
    zm118_17 x0 x1 v33 (1 : Int32) h21
  else
    zm118_17 x0 x1 v33 (0 : Int32) h21
theorem zmS118 {x0 : zq} {x1 : Int32} {h : zH} {r : Int32 ⊕ Nat} {h' : zH} (H : zm118 x0 x1 h = some (r, h')) : zAt 118 0 [some (zrv x0), some (zI x1)] [] h (zoI r) h' := by
  unfold zm118 at H
  refine zA_ldn rfl rfl rfl ?_
  refine zA_push rfl rfl zkk7 ?_
  refine zA_push rfl rfl zkk22 ?_
  rcases zb_e H with ⟨u49, h21, C, H⟩ | ⟨E, h21, C, H⟩
  · refine zA_callU (as := [zI x1, zI (0 : Int32), zI (7 : Int32)]) (st' := []) rfl rfl rfl rfl rfl (zmE131 _ _ _) rfl (zmS131 C) ?_
    refine zA_aldn rfl rfl rfl ?_
    obtain ⟨p22, i23, e24, c25, H⟩ := zob_e H
    refine zA_gf3 rfl rfl e24 c25 ?_
    refine zA_ldn rfl rfl rfl ?_
    obtain ⟨p26, i27, j28, v33, e29, c30, c31, e32, e34, H⟩ := zra_e H
    refine zA_aal rfl rfl e29 c30 c31 e32 e34 ?_
    refine zA_aldn rfl rfl rfl ?_
    refine zA_gf3 rfl rfl e24 c25 ?_
    refine zA_ldn rfl rfl rfl ?_
    obtain ⟨p35, i36, j37, v42, e38, c39, c40, e41, e43, H⟩ := zra_e H
    refine zA_aal rfl rfl e38 c39 c40 e41 e43 ?_
    obtain ⟨p44, i45, e46, c47, H⟩ := zob_e H
    refine zA_gf0 rfl rfl (Or.inr rfl) e46 c47 ?_
    rcases zite_e H with ⟨c48, H⟩ | ⟨c48, H⟩
    · refine zA_brF' (c := (zi h21 p44 i45 3) = 0) rfl rfl rfl c48 ?_
      refine zA_push rfl rfl zkk5 ?_
      refine zA_go rfl rfl ?_
      exact zA_tr (L := [some (zrv x0), some (zI x1)]) rfl rfl (zmS118_17 _ _ _ _ _ _ _ H)
    · refine zA_brT' (c := (zi h21 p44 i45 3) = 0) rfl rfl rfl c48 ?_
      refine zA_push rfl rfl zkk7 ?_
      exact zA_tr (L := [some (zrv x0), some (zI x1)]) rfl rfl (zmS118_17 _ _ _ _ _ _ _ H)
  · cases H
    exact zA_callX (as := [zI x1, zI (0 : Int32), zI (7 : Int32)]) (st' := []) rfl rfl rfl rfl (zmE131 _ _ _) rfl rfl rfl (zmS131 C)
theorem zmE118 (x0 : zq) (x1 : Int32) : zpad (zPr.2.1 118).1 (zil [zrv x0, zI x1]) = [some (zrv x0), some (zI x1)] := by
  simp only [zil_A, zil_I, zil_F, zil_D, zil_N]
  rfl
def zm285_9 (s0 : zq) (s1 : Int32) (s2 : Int64) (h : zH) : zRs Int32 :=
  zar 3 s0 s1 h fun p21 i22 j23 =>
  zlet (zsl h p21 i22 j23 s2) fun h28 =>
  some (.inl (0 : Int32), h28)
theorem zmS285_9 : ∀ (s0 : zq) (s1 : Int32) (s2 : Int64) (h : zH) (r : Int32 ⊕ Nat) (h' : zH), zm285_9 s0 s1 s2 h = some (r, h') → zAt 285 9 [none, none, none, none] [zJ s2, zI s1, zrv s0] h (zoI r) h' := by
  intro s0 s1 s2 h r h' H
  unfold zm285_9 at H
  obtain ⟨p21, i22, j23, e24, c25, c26, e27, H⟩ := zar_e H
  obtain ⟨h28, e29, H⟩ := zlet_e H
  refine zA_las rfl rfl e24 c25 c26 e27 e29 ?_
  refine zA_go rfl rfl ?_
  refine zA_push rfl rfl zkk7 ?_
  cases H
  exact zA_ret rfl rfl
-- 285: ReleaseHouseLaw.kill(LReleaseHouse;I[J)I
def zm285 (x0 : zq) (x1 : Int32) (x2 : zq) (h : zH) : zRs Int32 :=
  zob 11 x0 fun p21 i22 =>
  zbH [(0, 10, 0, 1)] 4 (zm118 x0 x1 h) fun x26 h25 =>
  if x26 = 0 then
    zm285_9 x2 (0 : Int32) (0 : Int64) h25
  else
    zm285_9 x2 (0 : Int32) (1 : Int64) h25
theorem zmS285 {x0 : zq} {x1 : Int32} {x2 : zq} {h : zH} {r : Int32 ⊕ Nat} {h' : zH} (H : zm285 x0 x1 x2 h = some (r, h')) : zAt 285 0 [some (zrv x0), some (zI x1), some (zrv x2), none] [] h (zoI r) h' := by
  unfold zm285 at H
  refine zA_aldn rfl rfl rfl ?_
  refine zA_push rfl rfl zkk7 ?_
  refine zA_aldn rfl rfl rfl ?_
  refine zA_ldn rfl rfl rfl ?_
  obtain ⟨p21, i22, e23, c24, H⟩ := zob_e H
  rcases zbH_e H with ⟨x26, h25, C, H⟩ | ⟨E, h25, c28, C, hc, H⟩
  · refine zA_callV (as := [zrv x0, zI x1]) (st' := [zI (0 : Int32), zrv x2]) rfl rfl rfl (zrcv_Q e23 c24) rfl (zmE118 _ _) rfl (zmS118 C) ?_
    rcases zite_e H with ⟨c27, H⟩ | ⟨c27, H⟩
    · refine zA_brT (c := x26 = 0) rfl rfl rfl c27 ?_
      refine zA_tr (L := [none, none, none, none]) rfl rfl ?_
      refine zA_push rfl rfl zkk24 ?_
      exact zA_tr (L := [none, none, none, none]) rfl rfl (zmS285_9 _ _ _ _ _ _ H)
    · refine zA_brF (c := x26 = 0) rfl rfl rfl c27 ?_
      refine zA_push rfl rfl zkk25 ?_
      refine zA_go rfl rfl ?_
      exact zA_tr (L := [none, none, none, none]) rfl rfl (zmS285_9 _ _ _ _ _ _ H)
  · cases H
    exact zA_callH (as := [zrv x0, zI x1]) (st' := [zI (0 : Int32), zrv x2]) rfl rfl (zrcv_Q e23 c24) rfl (zmE118 _ _) rfl rfl rfl (List.cons_ne_nil _ _) hc (zmS118 C)
theorem zmE285 (x0 : zq) (x1 : Int32) (x2 : zq) : zpad (zPr.2.1 285).1 (zil [zrv x0, zI x1, zrv x2]) = [some (zrv x0), some (zI x1), some (zrv x2), none] := by
  simp only [zil_A, zil_I, zil_F, zil_D, zil_N]
  rfl
def zm232_24 (x0 : zq) (x1 : Int32) (s0 : zq) (s1 : Int32) (s2 : Int32) (h : zH) : zRs Int32 :=
  zar 2 s0 s1 h fun p21 i22 j23 =>
  zif (s2 = 0 ∨ s2 = 1) <|
  zlet (zsi h p21 i22 j23 s2) fun h28 =>
  zob 12 x0 fun p31 i32 =>
  zrb (zr h28 p31 i32 63) x1 h28 fun v42 =>
  zif (v42 = 0 ∨ v42 = 1) <|
  some (.inl v42, h28)
theorem zmS232_24 : ∀ (x0 : zq) (x1 : Int32) (s0 : zq) (s1 : Int32) (s2 : Int32) (h : zH) (r : Int32 ⊕ Nat) (h' : zH), zm232_24 x0 x1 s0 s1 s2 h = some (r, h') → zAt 232 24 [some (zrv x0), some (zI x1)] [zI s2, zI s1, zrv s0] h (zoI r) h' := by
  intro x0 x1 s0 s1 s2 h r h' H
  unfold zm232_24 at H
  obtain ⟨p21, i22, j23, e24, c25, c26, e27, H⟩ := zar_e H
  obtain ⟨c30, H⟩ := zif_e H
  obtain ⟨h28, e29, H⟩ := zlet_e H
  refine zA_bas rfl rfl e24 c25 c26 e27 c30 e29 ?_
  refine zA_aldn rfl rfl rfl ?_
  obtain ⟨p31, i32, e33, c34, H⟩ := zob_e H
  refine zA_gf3 rfl rfl e33 c34 ?_
  refine zA_ldn rfl rfl rfl ?_
  obtain ⟨p35, i36, j37, v42, e38, c39, c40, e41, e43, H⟩ := zrb_e H
  refine zA_bal rfl rfl e38 c39 c40 e41 e43 ?_
  obtain ⟨c44, H⟩ := zif_e H
  cases H
  exact zA_ret rfl (zret_Z c44)
def zm232_7 (x0 : zq) (x1 : Int32) (s0 : zq) (s1 : Int32) (h : zH) : zRs Int32 :=
  zob 12 s0 fun p21 i22 =>
  zlet (zsi h p21 i22 0 s1) fun h25 =>
  zob 12 x0 fun p27 i28 =>
  if (zi h25 p27 i28 0) ≤ 0 then
    zrb (zr h25 p27 i28 63) x1 h25 fun v39 =>
    if v39 = 0 then
      zm232_24 x0 x1 (zr h25 p27 i28 63) x1 (1 : Int32) h25
    else
      zm232_24 x0 x1 (zr h25 p27 i28 63) x1 (0 : Int32) h25
  else
    some (.inl (0 : Int32), h25)
theorem zmS232_7 : ∀ (x0 : zq) (x1 : Int32) (s0 : zq) (s1 : Int32) (h : zH) (r : Int32 ⊕ Nat) (h' : zH), zm232_7 x0 x1 s0 s1 h = some (r, h') → zAt 232 7 [some (zrv x0), some (zI x1)] [zI s1, zrv s0] h (zoI r) h' := by
  intro x0 x1 s0 s1 h r h' H
  unfold zm232_7 at H
  obtain ⟨p21, i22, e23, c24, H⟩ := zob_e H
  obtain ⟨h25, e26, H⟩ := zlet_e H
  refine zA_pf0 rfl rfl e23 c24 e26 ?_
  refine zA_aldn rfl rfl rfl ?_
  obtain ⟨p27, i28, e29, c30, H⟩ := zob_e H
  refine zA_gf0 rfl rfl (Or.inl rfl) e29 c30 ?_
  rcases zite_e H with ⟨c31, H⟩ | ⟨c31, H⟩
  · refine zA_brT (c := (zi h25 p27 i28 0) ≤ 0) rfl rfl rfl c31 ?_
    refine zA_aldn rfl rfl rfl ?_
    refine zA_gf3 rfl rfl e29 c30 ?_
    refine zA_ldn rfl rfl rfl ?_
    refine zA_aldn rfl rfl rfl ?_
    refine zA_gf3 rfl rfl e29 c30 ?_
    refine zA_ldn rfl rfl rfl ?_
    obtain ⟨p32, i33, j34, v39, e35, c36, c37, e38, e40, H⟩ := zrb_e H
    refine zA_bal rfl rfl e35 c36 c37 e38 e40 ?_
    rcases zite_e H with ⟨c41, H⟩ | ⟨c41, H⟩
    · refine zA_brF' (c := v39 = 0) rfl rfl rfl c41 ?_
      refine zA_push rfl rfl zkk5 ?_
      refine zA_go rfl rfl ?_
      exact zA_tr (L := [some (zrv x0), some (zI x1)]) rfl rfl (zmS232_24 _ _ _ _ _ _ _ _ H)
    · refine zA_brT' (c := v39 = 0) rfl rfl rfl c41 ?_
      refine zA_push rfl rfl zkk7 ?_
      exact zA_tr (L := [some (zrv x0), some (zI x1)]) rfl rfl (zmS232_24 _ _ _ _ _ _ _ _ H)
  · refine zA_brF (c := (zi h25 p27 i28 0) ≤ 0) rfl rfl rfl c31 ?_
    refine zA_push rfl rfl zkk7 ?_
    cases H
    exact zA_ret rfl (zret_Z (by decide))
-- 232: ReleaseHouseModel.kill(I)Z
def zm232 (x0 : zq) (x1 : Int32) (h : zH) : zRs Int32 :=
  zb (zm229 x1 h) fun x22 h21 =>
  if x22 = 0 then
    zm232_7 x0 x1 x0 (1 : Int32) h21
  else
    zm232_7 x0 x1 x0 (0 : Int32) h21
theorem zmS232 {x0 : zq} {x1 : Int32} {h : zH} {r : Int32 ⊕ Nat} {h' : zH} (H : zm232 x0 x1 h = some (r, h')) : zAt 232 0 [some (zrv x0), some (zI x1)] [] h (zoI r) h' := by
  unfold zm232 at H
  refine zA_aldn rfl rfl rfl ?_
  refine zA_ldn rfl rfl rfl ?_
  rcases zb_e H with ⟨x22, h21, C, H⟩ | ⟨E, h21, C, H⟩
  · refine zA_callV (as := [zI x1]) (st' := [zrv x0]) rfl rfl rfl rfl rfl (zmE229 _) rfl (zmS229 C) ?_
    rcases zite_e H with ⟨c23, H⟩ | ⟨c23, H⟩
    · refine zA_brT (c := x22 = 0) rfl rfl rfl c23 ?_
      refine zA_push rfl rfl zkk5 ?_
      exact zA_tr (L := [some (zrv x0), some (zI x1)]) rfl rfl (zmS232_7 _ _ _ _ _ _ _ H)
    · refine zA_brF (c := x22 = 0) rfl rfl rfl c23 ?_
      refine zA_push rfl rfl zkk7 ?_
      refine zA_go rfl rfl ?_
      exact zA_tr (L := [some (zrv x0), some (zI x1)]) rfl rfl (zmS232_7 _ _ _ _ _ _ _ H)
  · cases H
    exact zA_callX (as := [zI x1]) (st' := [zrv x0]) rfl rfl rfl rfl (zmE229 _) rfl rfl rfl (zmS229 C)
theorem zmE232 (x0 : zq) (x1 : Int32) : zpad (zPr.2.1 232).1 (zil [zrv x0, zI x1]) = [some (zrv x0), some (zI x1)] := by
  simp only [zil_A, zil_I, zil_F, zil_D, zil_N]
  rfl
-- 119: ReleaseHouse.setPlan(II)V
def zm119 (x0 : zq) (x1 : Int32) (x2 : Int32) (h : zH) : zRs Unit :=
  zb (zm131 x1 (0 : Int32) (199 : Int32) h) fun _ h21 =>
  zb (zm131 x2 (0 : Int32) (6 : Int32) h21) fun _ h22 =>
  zob 11 x0 fun p23 i24 =>
  zar 1 (zr h22 p23 i24 10) x1 h22 fun p27 i28 j29 =>
  zlet (zsi h22 p27 i28 j29 x2) fun h34 =>
  some (.inl (), h34)
theorem zmS119 {x0 : zq} {x1 : Int32} {x2 : Int32} {h : zH} {r : Unit ⊕ Nat} {h' : zH} (H : zm119 x0 x1 x2 h = some (r, h')) : zAt 119 0 [some (zrv x0), some (zI x1), some (zI x2)] [] h (zoU r) h' := by
  unfold zm119 at H
  refine zA_ldn rfl rfl rfl ?_
  refine zA_push rfl rfl zkk7 ?_
  refine zA_push rfl rfl zkk48 ?_
  rcases zb_e H with ⟨u37, h21, C, H⟩ | ⟨E, h21, C, H⟩
  · refine zA_callU (as := [zI x1, zI (0 : Int32), zI (199 : Int32)]) (st' := []) rfl rfl rfl rfl rfl (zmE131 _ _ _) rfl (zmS131 C) ?_
    refine zA_ldn rfl rfl rfl ?_
    refine zA_push rfl rfl zkk7 ?_
    refine zA_push rfl rfl zkk14 ?_
    rcases zb_e H with ⟨u36, h22, C, H⟩ | ⟨E, h22, C, H⟩
    · refine zA_callU (as := [zI x2, zI (0 : Int32), zI (6 : Int32)]) (st' := []) rfl rfl rfl rfl rfl (zmE131 _ _ _) rfl (zmS131 C) ?_
      refine zA_aldn rfl rfl rfl ?_
      obtain ⟨p23, i24, e25, c26, H⟩ := zob_e H
      refine zA_gf3 rfl rfl e25 c26 ?_
      refine zA_ldn rfl rfl rfl ?_
      refine zA_ldn rfl rfl rfl ?_
      obtain ⟨p27, i28, j29, e30, c31, c32, e33, H⟩ := zar_e H
      obtain ⟨h34, e35, H⟩ := zlet_e H
      refine zA_ias rfl rfl e30 c31 c32 e33 e35 ?_
      cases H
      exact zA_ret rfl rfl
    · cases H
      exact zA_callX (as := [zI x2, zI (0 : Int32), zI (6 : Int32)]) (st' := []) rfl rfl rfl rfl (zmE131 _ _ _) rfl rfl rfl (zmS131 C)
  · cases H
    exact zA_callX (as := [zI x1, zI (0 : Int32), zI (199 : Int32)]) (st' := []) rfl rfl rfl rfl (zmE131 _ _ _) rfl rfl rfl (zmS131 C)
theorem zmE119 (x0 : zq) (x1 : Int32) (x2 : Int32) : zpad (zPr.2.1 119).1 (zil [zrv x0, zI x1, zI x2]) = [some (zrv x0), some (zI x1), some (zI x2)] := by
  simp only [zil_A, zil_I, zil_F, zil_D, zil_N]
  rfl
-- 286: ReleaseHouseLaw.setPlan(LReleaseHouse;II)I
def zm286 (x0 : zq) (x1 : Int32) (x2 : Int32) (h : zH) : zRs Int32 :=
  zob 11 x0 fun p21 i22 =>
  zbH [(0, 4, 0, 1)] 3 (zm119 x0 x1 x2 h) fun _ h25 =>
  some (.inl (0 : Int32), h25)
theorem zmS286 {x0 : zq} {x1 : Int32} {x2 : Int32} {h : zH} {r : Int32 ⊕ Nat} {h' : zH} (H : zm286 x0 x1 x2 h = some (r, h')) : zAt 286 0 [some (zrv x0), some (zI x1), some (zI x2), none] [] h (zoI r) h' := by
  unfold zm286 at H
  refine zA_aldn rfl rfl rfl ?_
  refine zA_ldn rfl rfl rfl ?_
  refine zA_ldn rfl rfl rfl ?_
  obtain ⟨p21, i22, e23, c24, H⟩ := zob_e H
  rcases zbH_e H with ⟨u26, h25, C, H⟩ | ⟨E, h25, c27, C, hc, H⟩
  · refine zA_callU (as := [zrv x0, zI x1, zI x2]) (st' := []) rfl rfl rfl (zrcv_Q e23 c24) rfl (zmE119 _ _ _) rfl (zmS119 C) ?_
    refine zA_go rfl rfl ?_
    refine zA_tr (L := [none, none, none, none]) rfl rfl ?_
    refine zA_push rfl rfl zkk7 ?_
    cases H
    exact zA_ret rfl rfl
  · cases H
    exact zA_callH (as := [zrv x0, zI x1, zI x2]) (st' := []) rfl rfl (zrcv_Q e23 c24) rfl (zmE119 _ _ _) rfl rfl rfl (List.cons_ne_nil _ _) hc (zmS119 C)
theorem zmE286 (x0 : zq) (x1 : Int32) (x2 : Int32) : zpad (zPr.2.1 286).1 (zil [zrv x0, zI x1, zI x2]) = [some (zrv x0), some (zI x1), some (zI x2), none] := by
  simp only [zil_A, zil_I, zil_F, zil_D, zil_N]
  rfl
def zm233_14 (x0 : zq) (x1 : Int32) (x2 : Int32) (s0 : zq) (s1 : Int32) (h : zH) : zRs Unit :=
  zob 12 s0 fun p21 i22 =>
  zlet (zsi h p21 i22 0 s1) fun h25 =>
  zob 12 x0 fun p27 i28 =>
  if (zi h25 p27 i28 0) = 0 then
    zar 1 (zr h25 p27 i28 70) x1 h25 fun p32 i33 j34 =>
    zlet (zsi h25 p32 i33 j34 x2) fun h39 =>
    some (.inl (), h39)
  else
    some (.inl (), h25)
theorem zmS233_14 : ∀ (x0 : zq) (x1 : Int32) (x2 : Int32) (s0 : zq) (s1 : Int32) (h : zH) (r : Unit ⊕ Nat) (h' : zH), zm233_14 x0 x1 x2 s0 s1 h = some (r, h') → zAt 233 14 [some (zrv x0), some (zI x1), some (zI x2)] [zI s1, zrv s0] h (zoU r) h' := by
  intro x0 x1 x2 s0 s1 h r h' H
  unfold zm233_14 at H
  obtain ⟨p21, i22, e23, c24, H⟩ := zob_e H
  obtain ⟨h25, e26, H⟩ := zlet_e H
  refine zA_pf0 rfl rfl e23 c24 e26 ?_
  refine zA_aldn rfl rfl rfl ?_
  obtain ⟨p27, i28, e29, c30, H⟩ := zob_e H
  refine zA_gf0 rfl rfl (Or.inl rfl) e29 c30 ?_
  rcases zite_e H with ⟨c31, H⟩ | ⟨c31, H⟩
  · refine zA_brF' (c := (zi h25 p27 i28 0) = 0) rfl rfl rfl c31 ?_
    refine zA_aldn rfl rfl rfl ?_
    refine zA_gf3 rfl rfl e29 c30 ?_
    refine zA_ldn rfl rfl rfl ?_
    refine zA_ldn rfl rfl rfl ?_
    obtain ⟨p32, i33, j34, e35, c36, c37, e38, H⟩ := zar_e H
    obtain ⟨h39, e40, H⟩ := zlet_e H
    refine zA_ias rfl rfl e35 c36 c37 e38 e40 ?_
    refine zA_tr (L := [none, none, none]) rfl rfl ?_
    cases H
    exact zA_ret rfl rfl
  · refine zA_brT' (c := (zi h25 p27 i28 0) = 0) rfl rfl rfl c31 ?_
    refine zA_tr (L := [none, none, none]) rfl rfl ?_
    cases H
    exact zA_ret rfl rfl
-- 233: ReleaseHouseModel.setPlan(II)V
def zm233 (x0 : zq) (x1 : Int32) (x2 : Int32) (h : zH) : zRs Unit :=
  zb (zm139 x1 (0 : Int32) (199 : Int32) h) fun x22 h21 =>
  if x22 = 0 then
    zm233_14 x0 x1 x2 x0 (1 : Int32) h21
  else
    zb (zm139 x2 (0 : Int32) (6 : Int32) h21) fun x25 h24 =>
    if x25 = 0 then
      zm233_14 x0 x1 x2 x0 (1 : Int32) h24
    else
      zm233_14 x0 x1 x2 x0 (0 : Int32) h24
theorem zmS233 {x0 : zq} {x1 : Int32} {x2 : Int32} {h : zH} {r : Unit ⊕ Nat} {h' : zH} (H : zm233 x0 x1 x2 h = some (r, h')) : zAt 233 0 [some (zrv x0), some (zI x1), some (zI x2)] [] h (zoU r) h' := by
  unfold zm233 at H
  refine zA_aldn rfl rfl rfl ?_
  refine zA_ldn rfl rfl rfl ?_
  refine zA_push rfl rfl zkk7 ?_
  refine zA_push rfl rfl zkk48 ?_
  rcases zb_e H with ⟨x22, h21, C, H⟩ | ⟨E, h21, C, H⟩
  · refine zA_callV (as := [zI x1, zI (0 : Int32), zI (199 : Int32)]) (st' := [zrv x0]) rfl rfl rfl rfl rfl (zmE139 _ _ _) rfl (zmS139 C) ?_
    rcases zite_e H with ⟨c23, H⟩ | ⟨c23, H⟩
    · refine zA_brT (c := x22 = 0) rfl rfl rfl c23 ?_
      refine zA_push rfl rfl zkk5 ?_
      exact zA_tr (L := [some (zrv x0), some (zI x1), some (zI x2)]) rfl rfl (zmS233_14 _ _ _ _ _ _ _ _ H)
    · refine zA_brF (c := x22 = 0) rfl rfl rfl c23 ?_
      refine zA_ldn rfl rfl rfl ?_
      refine zA_push rfl rfl zkk7 ?_
      refine zA_push rfl rfl zkk14 ?_
      rcases zb_e H with ⟨x25, h24, C, H⟩ | ⟨E, h24, C, H⟩
      · refine zA_callV (as := [zI x2, zI (0 : Int32), zI (6 : Int32)]) (st' := [zrv x0]) rfl rfl rfl rfl rfl (zmE139 _ _ _) rfl (zmS139 C) ?_
        rcases zite_e H with ⟨c26, H⟩ | ⟨c26, H⟩
        · refine zA_brT (c := x25 = 0) rfl rfl rfl c26 ?_
          refine zA_push rfl rfl zkk5 ?_
          exact zA_tr (L := [some (zrv x0), some (zI x1), some (zI x2)]) rfl rfl (zmS233_14 _ _ _ _ _ _ _ _ H)
        · refine zA_brF (c := x25 = 0) rfl rfl rfl c26 ?_
          refine zA_push rfl rfl zkk7 ?_
          refine zA_go rfl rfl ?_
          exact zA_tr (L := [some (zrv x0), some (zI x1), some (zI x2)]) rfl rfl (zmS233_14 _ _ _ _ _ _ _ _ H)
      · cases H
        exact zA_callX (as := [zI x2, zI (0 : Int32), zI (6 : Int32)]) (st' := [zrv x0]) rfl rfl rfl rfl (zmE139 _ _ _) rfl rfl rfl (zmS139 C)
  · cases H
    exact zA_callX (as := [zI x1, zI (0 : Int32), zI (199 : Int32)]) (st' := [zrv x0]) rfl rfl rfl rfl (zmE139 _ _ _) rfl rfl rfl (zmS139 C)
theorem zmE233 (x0 : zq) (x1 : Int32) (x2 : Int32) : zpad (zPr.2.1 233).1 (zil [zrv x0, zI x1, zI x2]) = [some (zrv x0), some (zI x1), some (zI x2)] := by
  simp only [zil_A, zil_I, zil_F, zil_D, zil_N]
  rfl
-- 124: ReleaseHouse.attributeOf(II)I
def zm124 (x0 : zq) (x1 : Int32) (x2 : Int32) (h : zH) : zRs Int32 :=
  if x2 = 0 then
    zb (zm135 x1 h) fun x23 h22 =>
    some (.inl x23, h22)
  else
    if x2 = (1 : Int32) then
      some (.inl (x1 - x1 / (7 : Int32) * (7 : Int32)), h)
    else
      zob 11 x0 fun p26 i27 =>
      zri (zr h p26 i27 10) x1 h fun v37 =>
      some (.inl v37, h)
theorem zmS124 {x0 : zq} {x1 : Int32} {x2 : Int32} {h : zH} {r : Int32 ⊕ Nat} {h' : zH} (H : zm124 x0 x1 x2 h = some (r, h')) : zAt 124 0 [some (zrv x0), some (zI x1), some (zI x2)] [] h (zoI r) h' := by
  unfold zm124 at H
  refine zA_ldn rfl rfl rfl ?_
  rcases zite_e H with ⟨c21, H⟩ | ⟨c21, H⟩
  · refine zA_brF' (c := x2 = 0) rfl rfl rfl c21 ?_
    refine zA_ldn rfl rfl rfl ?_
    rcases zb_e H with ⟨x23, h22, C, H⟩ | ⟨E, h22, C, H⟩
    · refine zA_callV (as := [zI x1]) (st' := []) rfl rfl rfl rfl rfl (zmE135 _) rfl (zmS135 C) ?_
      cases H
      exact zA_ret rfl rfl
    · cases H
      exact zA_callX (as := [zI x1]) (st' := []) rfl rfl rfl rfl (zmE135 _) rfl rfl rfl (zmS135 C)
  · refine zA_brT' (c := x2 = 0) rfl rfl rfl c21 ?_
    refine zA_ldn rfl rfl rfl ?_
    refine zA_push rfl rfl zkk5 ?_
    rcases zite_e H with ⟨c24, H⟩ | ⟨c24, H⟩
    · refine zA_brF' (c := x2 = (1 : Int32)) rfl rfl rfl c24 ?_
      refine zA_ldn rfl rfl rfl ?_
      refine zA_push rfl rfl zkk22 ?_
      refine zA_rem rfl rfl (by decide) ?_
      refine zA_go rfl rfl ?_
      refine zA_tr (L := [none, none, none]) rfl rfl ?_
      cases H
      exact zA_ret rfl rfl
    · refine zA_brT' (c := x2 = (1 : Int32)) rfl rfl rfl c24 ?_
      refine zA_tr (L := [some (zrv x0), some (zI x1), none]) rfl rfl ?_
      refine zA_aldn rfl rfl rfl ?_
      obtain ⟨p26, i27, e28, c29, H⟩ := zob_e H
      refine zA_gf3 rfl rfl e28 c29 ?_
      refine zA_ldn rfl rfl rfl ?_
      obtain ⟨p30, i31, j32, v37, e33, c34, c35, e36, e38, H⟩ := zri_e H
      refine zA_ial rfl rfl e33 c34 c35 e36 e38 ?_
      refine zA_tr (L := [none, none, none]) rfl rfl ?_
      cases H
      exact zA_ret rfl rfl
theorem zmE124 (x0 : zq) (x1 : Int32) (x2 : Int32) : zpad (zPr.2.1 124).1 (zil [zrv x0, zI x1, zI x2]) = [some (zrv x0), some (zI x1), some (zI x2)] := by
  simp only [zil_A, zil_I, zil_F, zil_D, zil_N]
  rfl
-- 16: ReleaseHouse$Rule.meets(I)Z
def zm16 (x0 : zq) (x1 : Int32) (h : zH) : zRs Int32 :=
  zob 6 x0 fun p21 i22 =>
  if (zi h p21 i22 1) = 0 then
    if x1 = (zi h p21 i22 2) then
      some (.inl (1 : Int32), h)
    else
      some (.inl (0 : Int32), h)
  else
    if x1 < (zi h p21 i22 2) then
      some (.inl (0 : Int32), h)
    else
      some (.inl (1 : Int32), h)
theorem zmS16 {x0 : zq} {x1 : Int32} {h : zH} {r : Int32 ⊕ Nat} {h' : zH} (H : zm16 x0 x1 h = some (r, h')) : zAt 16 0 [some (zrv x0), some (zI x1)] [] h (zoI r) h' := by
  unfold zm16 at H
  refine zA_aldn rfl rfl rfl ?_
  obtain ⟨p21, i22, e23, c24, H⟩ := zob_e H
  refine zA_gf0 rfl rfl (Or.inr rfl) e23 c24 ?_
  rcases zite_e H with ⟨c25, H⟩ | ⟨c25, H⟩
  · refine zA_brT (c := (zi h p21 i22 1) = 0) rfl rfl rfl c25 ?_
    refine zA_ldn rfl rfl rfl ?_
    refine zA_aldn rfl rfl rfl ?_
    refine zA_gf0 rfl rfl (Or.inl rfl) e23 c24 ?_
    rcases zite_e H with ⟨c26, H⟩ | ⟨c26, H⟩
    · refine zA_brF' (c := x1 = (zi h p21 i22 2)) rfl rfl rfl c26 ?_
      refine zA_push rfl rfl zkk5 ?_
      refine zA_go rfl rfl ?_
      refine zA_tr (L := [none, none]) rfl rfl ?_
      cases H
      exact zA_ret rfl (zret_Z (by decide))
    · refine zA_brT' (c := x1 = (zi h p21 i22 2)) rfl rfl rfl c26 ?_
      refine zA_tr (L := [none, none]) rfl rfl ?_
      refine zA_push rfl rfl zkk7 ?_
      cases H
      exact zA_ret rfl (zret_Z (by decide))
  · refine zA_brF (c := (zi h p21 i22 1) = 0) rfl rfl rfl c25 ?_
    refine zA_ldn rfl rfl rfl ?_
    refine zA_aldn rfl rfl rfl ?_
    refine zA_gf0 rfl rfl (Or.inl rfl) e23 c24 ?_
    rcases zite_e H with ⟨c27, H⟩ | ⟨c27, H⟩
    · refine zA_brT (c := x1 < (zi h p21 i22 2)) rfl rfl rfl c27 ?_
      refine zA_tr (L := [none, none]) rfl rfl ?_
      refine zA_push rfl rfl zkk7 ?_
      refine zA_go rfl rfl ?_
      cases H
      exact zA_ret rfl (zret_Z (by decide))
    · refine zA_brF (c := x1 < (zi h p21 i22 2)) rfl rfl rfl c27 ?_
      refine zA_push rfl rfl zkk5 ?_
      refine zA_go rfl rfl ?_
      refine zA_tr (L := [none, none]) rfl rfl ?_
      cases H
      exact zA_ret rfl (zret_Z (by decide))
theorem zmE16 (x0 : zq) (x1 : Int32) : zpad (zPr.2.1 16).1 (zil [zrv x0, zI x1]) = [some (zrv x0), some (zI x1)] := by
  simp only [zil_A, zil_I, zil_F, zil_D, zil_N]
  rfl
-- 123: ReleaseHouse.isWithin(III)Z
def zm123 (x0 : Int32) (x1 : Int32) (x2 : Int32) (h : zH) : zRs Int32 :=
  if x2 ≤ ((((53 : Int32) * x1) + ((29 : Int32) * x0)) - (((53 : Int32) * x1) + ((29 : Int32) * x0)) / (100 : Int32) * (100 : Int32)) then
    some (.inl (0 : Int32), h)
  else
    some (.inl (1 : Int32), h)
theorem zmS123 {x0 : Int32} {x1 : Int32} {x2 : Int32} {h : zH} {r : Int32 ⊕ Nat} {h' : zH} (H : zm123 x0 x1 x2 h = some (r, h')) : zAt 123 0 [some (zI x0), some (zI x1), some (zI x2)] [] h (zoI r) h' := by
  unfold zm123 at H
  refine zA_push rfl rfl zkk57 ?_
  refine zA_ldn rfl rfl rfl ?_
  refine zA_st (st' := [zI ((53 : Int32) * x1)]) rfl rfl rfl rfl ?_
  refine zA_push rfl rfl zkk58 ?_
  refine zA_ldn rfl rfl rfl ?_
  refine zA_st (st' := [zI ((29 : Int32) * x0), zI ((53 : Int32) * x1)]) rfl rfl rfl rfl ?_
  refine zA_st (st' := [zI (((53 : Int32) * x1) + ((29 : Int32) * x0))]) rfl rfl rfl rfl ?_
  refine zA_push rfl rfl zkk29 ?_
  refine zA_rem rfl rfl (by decide) ?_
  refine zA_ldn rfl rfl rfl ?_
  rcases zite_e H with ⟨c22, H⟩ | ⟨c22, H⟩
  · refine zA_brT (c := x2 ≤ ((((53 : Int32) * x1) + ((29 : Int32) * x0)) - (((53 : Int32) * x1) + ((29 : Int32) * x0)) / (100 : Int32) * (100 : Int32))) rfl rfl rfl c22 ?_
    refine zA_tr (L := [none, none, none]) rfl rfl ?_
    refine zA_push rfl rfl zkk7 ?_
    cases H
    exact zA_ret rfl (zret_Z (by decide))
  · refine zA_brF (c := x2 ≤ ((((53 : Int32) * x1) + ((29 : Int32) * x0)) - (((53 : Int32) * x1) + ((29 : Int32) * x0)) / (100 : Int32) * (100 : Int32))) rfl rfl rfl c22 ?_
    refine zA_push rfl rfl zkk5 ?_
    refine zA_go rfl rfl ?_
    refine zA_tr (L := [none, none, none]) rfl rfl ?_
    cases H
    exact zA_ret rfl (zret_Z (by decide))
theorem zmE123 (x0 : Int32) (x1 : Int32) (x2 : Int32) : zpad (zPr.2.1 123).1 (zil [zI x0, zI x1, zI x2]) = [some (zI x0), some (zI x1), some (zI x2)] := by
  simp only [zil_A, zil_I, zil_F, zil_D, zil_N]
  rfl
def zm122_8 (k44 : zq → Int32 → Int32 → zH → zRs Int32) : Nat → zq → Int32 → Int32 → zq → Int32 → zH → zRs Int32
  | 0, _, _, _, _, _, _ => none
  | n + 1, x0, x1, x2, x3, x4, h =>
    zlz x3 h fun v26 =>
    if v26 ≤ x4 then
      k44 x0 x1 x2 h
    else
      zlg x3 x4 h fun v35 =>
      zob 6 v35 fun p37 i38 =>
      zob 11 x0 fun p41 i42 =>
      zb (zm124 x0 x2 (zi h p37 i38 0) h) fun x46 h45 =>
      zb (zm16 v35 x46 h45) fun x48 h47 =>
      if x48 = 0 then
        zlet (x4 + (1 : Int32)) fun x50 =>
        zm122_8 k44 n x0 x1 x2 x3 x50 h47
      else
        if (zi h47 p37 i38 3) = (1 : Int32) then
          some (.inl (1 : Int32), h47)
        else
          if (zi h47 p37 i38 3) = 0 then
            some (.inl (0 : Int32), h47)
          else
            zb (zm123 x1 x2 (zi h47 p37 i38 3) h47) fun x55 h54 =>
            if x55 = 0 then
              some (.inl (0 : Int32), h54)
            else
              some (.inl (1 : Int32), h54)
theorem zmS122_8 {k44 : zq → Int32 → Int32 → zH → zRs Int32} (hk44 : ∀ (x0 : zq) (x1 : Int32) (x2 : Int32) (h : zH) (r : Int32 ⊕ Nat) (h' : zH), k44 x0 x1 x2 h = some (r, h') → zAt 122 44 [some (zrv x0), some (zI x1), some (zI x2), none, none, none] [] h (zoI r) h') : ∀ (n : Nat) (x0 : zq) (x1 : Int32) (x2 : Int32) (x3 : zq) (x4 : Int32) (h : zH) (r : Int32 ⊕ Nat) (h' : zH), zm122_8 k44 n x0 x1 x2 x3 x4 h = some (r, h') → zAt 122 8 [some (zrv x0), some (zI x1), some (zI x2), some (zrv x3), some (zI x4), none] [] h (zoI r) h' := by
  intro n
  induction n with
  | zero => intro x0 x1 x2 x3 x4 h r h' H; cases H
  | succ n ih =>
    intro x0 x1 x2 x3 x4 h r h' H
    unfold zm122_8 at H
    refine zA_ld rfl rfl rfl ?_
    refine zA_aldn rfl rfl rfl ?_
    obtain ⟨p21, i22, v26, e23, c24, c25, e27, H⟩ := zlz_e H
    refine zA_l2 rfl rfl rfl e23 c24 c25 e27 ?_
    rcases zite_e H with ⟨c28, H⟩ | ⟨c28, H⟩
    · refine zA_brT (c := v26 ≤ x4) rfl rfl rfl c28 ?_
      exact zA_tr (L := [some (zrv x0), some (zI x1), some (zI x2), none, none, none]) rfl rfl (hk44 _ _ _ _ _ _ H)
    · refine zA_brF (c := v26 ≤ x4) rfl rfl rfl c28 ?_
      refine zA_aldn rfl rfl rfl ?_
      refine zA_ld rfl rfl rfl ?_
      obtain ⟨p29, i30, v35, e31, c32, c33, c34, e36, H⟩ := zlg_e H
      refine zA_l3 rfl rfl rfl e31 c32 c33 c34 e36 ?_
      obtain ⟨p37, i38, e39, c40, H⟩ := zob_e H
      refine zA_cast rfl rfl e39 c40 ?_
      refine zA_ast2 rfl rfl rfl (zset1 (L' := [some (zrv x0), some (zI x1), some (zI x2), some (zrv x3), some (zI x4), some (zrv v35)]) (zcat_rv _) rfl (zpcV rfl rfl)) ?_
      refine zA_ald rfl rfl rfl ?_
      refine zA_aldn rfl rfl rfl ?_
      refine zA_ldn rfl rfl rfl ?_
      refine zA_ald rfl rfl rfl ?_
      refine zA_gf0 rfl rfl (Or.inl rfl) e39 c40 ?_
      obtain ⟨p41, i42, e43, c44, H⟩ := zob_e H
      rcases zb_e H with ⟨x46, h45, C, H⟩ | ⟨E, h45, C, H⟩
      · refine zA_callV (as := [zrv x0, zI x2, zI (zi h p37 i38 0)]) (st' := [zrv v35]) rfl rfl rfl (zrcv_Q e43 c44) rfl (zmE124 _ _ _) rfl (zmS124 C) ?_
        rcases zb_e H with ⟨x48, h47, C, H⟩ | ⟨E, h47, C, H⟩
        · refine zA_callV (as := [zrv v35, zI x46]) (st' := []) rfl rfl rfl (zrcv_Q e39 c40) rfl (zmE16 _ _) rfl (zmS16 C) ?_
          rcases zite_e H with ⟨c49, H⟩ | ⟨c49, H⟩
          · refine zA_brT (c := x48 = 0) rfl rfl rfl c49 ?_
            refine zA_tr (L := [some (zrv x0), some (zI x1), some (zI x2), some (zrv x3), some (zI x4), none]) rfl rfl ?_
            obtain ⟨x50, e51, H⟩ := zlet_e H
            refine zA_inc rfl rfl rfl (e51.trans (congrArg (_ + ·) zkk8)) (zset1 (L' := [some (zrv x0), some (zI x1), some (zI x2), some (zrv x3), some (zI x50), none]) rfl rfl (zpcV rfl (zcat_rv _))) ?_
            refine zA_go rfl rfl ?_
            exact zA_tr (L := [some (zrv x0), some (zI x1), some (zI x2), some (zrv x3), some (zI x50), none]) rfl rfl (ih _ _ _ _ _ _ _ _ H)
          · refine zA_brF (c := x48 = 0) rfl rfl rfl c49 ?_
            refine zA_ald rfl rfl rfl ?_
            refine zA_gf0 rfl rfl (Or.inl rfl) e39 c40 ?_
            refine zA_push rfl rfl zkk5 ?_
            rcases zite_e H with ⟨c52, H⟩ | ⟨c52, H⟩
            · refine zA_brT (c := (zi h47 p37 i38 3) = (1 : Int32)) rfl rfl rfl c52 ?_
              refine zA_tr (L := [none, none, none, none, none, none]) rfl rfl ?_
              refine zA_push rfl rfl zkk5 ?_
              refine zA_go rfl rfl ?_
              cases H
              exact zA_ret rfl (zret_Z (by decide))
            · refine zA_brF (c := (zi h47 p37 i38 3) = (1 : Int32)) rfl rfl rfl c52 ?_
              refine zA_ald rfl rfl rfl ?_
              refine zA_gf0 rfl rfl (Or.inl rfl) e39 c40 ?_
              rcases zite_e H with ⟨c53, H⟩ | ⟨c53, H⟩
              · refine zA_brT (c := (zi h47 p37 i38 3) = 0) rfl rfl rfl c53 ?_
                refine zA_tr (L := [none, none, none, none, none, none]) rfl rfl ?_
                refine zA_push rfl rfl zkk7 ?_
                cases H
                exact zA_ret rfl (zret_Z (by decide))
              · refine zA_brF (c := (zi h47 p37 i38 3) = 0) rfl rfl rfl c53 ?_
                refine zA_ldn rfl rfl rfl ?_
                refine zA_ldn rfl rfl rfl ?_
                refine zA_ald rfl rfl rfl ?_
                refine zA_gf0 rfl rfl (Or.inl rfl) e39 c40 ?_
                rcases zb_e H with ⟨x55, h54, C, H⟩ | ⟨E, h54, C, H⟩
                · refine zA_callV (as := [zI x1, zI x2, zI (zi h47 p37 i38 3)]) (st' := []) rfl rfl rfl rfl rfl (zmE123 _ _ _) rfl (zmS123 C) ?_
                  rcases zite_e H with ⟨c56, H⟩ | ⟨c56, H⟩
                  · refine zA_brT (c := x55 = 0) rfl rfl rfl c56 ?_
                    refine zA_tr (L := [none, none, none, none, none, none]) rfl rfl ?_
                    refine zA_push rfl rfl zkk7 ?_
                    cases H
                    exact zA_ret rfl (zret_Z (by decide))
                  · refine zA_brF (c := x55 = 0) rfl rfl rfl c56 ?_
                    refine zA_tr (L := [none, none, none, none, none, none]) rfl rfl ?_
                    refine zA_push rfl rfl zkk5 ?_
                    refine zA_go rfl rfl ?_
                    cases H
                    exact zA_ret rfl (zret_Z (by decide))
                · cases H
                  exact zA_callX (as := [zI x1, zI x2, zI (zi h47 p37 i38 3)]) (st' := []) rfl rfl rfl rfl (zmE123 _ _ _) rfl rfl rfl (zmS123 C)
        · cases H
          exact zA_callX (as := [zrv v35, zI x46]) (st' := []) rfl rfl (zrcv_Q e39 c40) rfl (zmE16 _ _) rfl rfl rfl (zmS16 C)
      · cases H
        exact zA_callX (as := [zrv x0, zI x2, zI (zi h p37 i38 0)]) (st' := [zrv v35]) rfl rfl (zrcv_Q e43 c44) rfl (zmE124 _ _ _) rfl rfl rfl (zmS124 C)
def zm122_44 (x0 : zq) (x1 : Int32) (x2 : Int32) (h : zH) : zRs Int32 :=
  zob 11 x0 fun p21 i22 =>
  zra (zr h p21 i22 7) x1 h fun v32 =>
  zob 2 v32 fun p34 i35 =>
  zb (zm123 x1 x2 (zi h p34 i35 1) h) fun x39 h38 =>
  zif (x39 = 0 ∨ x39 = 1) <|
  some (.inl x39, h38)
theorem zmS122_44 : ∀ (x0 : zq) (x1 : Int32) (x2 : Int32) (h : zH) (r : Int32 ⊕ Nat) (h' : zH), zm122_44 x0 x1 x2 h = some (r, h') → zAt 122 44 [some (zrv x0), some (zI x1), some (zI x2), none, none, none] [] h (zoI r) h' := by
  intro x0 x1 x2 h r h' H
  unfold zm122_44 at H
  refine zA_ldn rfl rfl rfl ?_
  refine zA_ldn rfl rfl rfl ?_
  refine zA_aldn rfl rfl rfl ?_
  obtain ⟨p21, i22, e23, c24, H⟩ := zob_e H
  refine zA_gf3 rfl rfl e23 c24 ?_
  refine zA_ldn rfl rfl rfl ?_
  obtain ⟨p25, i26, j27, v32, e28, c29, c30, e31, e33, H⟩ := zra_e H
  refine zA_aal rfl rfl e28 c29 c30 e31 e33 ?_
  obtain ⟨p34, i35, e36, c37, H⟩ := zob_e H
  refine zA_gf0 rfl rfl (Or.inl rfl) e36 c37 ?_
  rcases zb_e H with ⟨x39, h38, C, H⟩ | ⟨E, h38, C, H⟩
  · refine zA_callV (as := [zI x1, zI x2, zI (zi h p34 i35 1)]) (st' := []) rfl rfl rfl rfl rfl (zmE123 _ _ _) rfl (zmS123 C) ?_
    obtain ⟨c40, H⟩ := zif_e H
    cases H
    exact zA_ret rfl (zret_Z c40)
  · cases H
    exact zA_callX (as := [zI x1, zI x2, zI (zi h p34 i35 1)]) (st' := []) rfl rfl rfl rfl (zmE123 _ _ _) rfl rfl rfl (zmS123 C)
-- 122: ReleaseHouse.isOnByItself(II)Z
def zm122 (x0 : zq) (x1 : Int32) (x2 : Int32) (h : zH) : zRs Int32 :=
  zob 11 x0 fun p21 i22 =>
  zra (zr h p21 i22 7) x1 h fun v32 =>
  zob 2 v32 fun p34 i35 =>
  zlet (zr h p34 i35 0) fun x38 =>
  zm122_8 (zm122_44) zN0 x0 x1 x2 x38 (0 : Int32) h
theorem zmS122 {x0 : zq} {x1 : Int32} {x2 : Int32} {h : zH} {r : Int32 ⊕ Nat} {h' : zH} (H : zm122 x0 x1 x2 h = some (r, h')) : zAt 122 0 [some (zrv x0), some (zI x1), some (zI x2), none, none, none] [] h (zoI r) h' := by
  unfold zm122 at H
  refine zA_aldn rfl rfl rfl ?_
  obtain ⟨p21, i22, e23, c24, H⟩ := zob_e H
  refine zA_gf3 rfl rfl e23 c24 ?_
  refine zA_ldn rfl rfl rfl ?_
  obtain ⟨p25, i26, j27, v32, e28, c29, c30, e31, e33, H⟩ := zra_e H
  refine zA_aal rfl rfl e28 c29 c30 e31 e33 ?_
  obtain ⟨p34, i35, e36, c37, H⟩ := zob_e H
  refine zA_gf3 rfl rfl e36 c37 ?_
  obtain ⟨x38, e39, H⟩ := zlet_e H
  refine zA_astn2 rfl rfl e39 (zset1 (L' := [some (zrv x0), some (zI x1), some (zI x2), some (zrv x38), none, none]) (zcat_rv _) rfl (zpcV rfl rfl)) ?_
  refine zA_push rfl rfl zkk7 ?_
  refine zA_ist2 rfl rfl rfl (zset1 (L' := [some (zrv x0), some (zI x1), some (zI x2), some (zrv x38), some (zI (0 : Int32)), none]) rfl rfl (zpcV rfl (zcat_rv _))) ?_
  exact zA_tr (L := [some (zrv x0), some (zI x1), some (zI x2), some (zrv x38), some (zI (0 : Int32)), none]) rfl rfl (zmS122_8 (zmS122_44) zN0 _ _ _ _ _ _ _ _ H)
theorem zmE122 (x0 : zq) (x1 : Int32) (x2 : Int32) : zpad (zPr.2.1 122).1 (zil [zrv x0, zI x1, zI x2]) = [some (zrv x0), some (zI x1), some (zI x2), none, none, none] := by
  simp only [zil_A, zil_I, zil_F, zil_D, zil_N]
  rfl
def zm121_4 : Nat → zq → Int32 → Int32 → Int32 → zH → zRs Int32
  | 0, _, _, _, _, _ => none
  | n + 1, x0, x2, x3, x4, h =>
    if (8 : Int32) ≤ x4 then
      some (.inl (1 : Int32), h)
    else
      if x3 = (-1 : Int32) then
        some (.inl (1 : Int32), h)
      else
        zob 11 x0 fun p23 i24 =>
        zra (zr h p23 i24 7) x3 h fun v34 =>
        zob 2 v34 fun p36 i37 =>
        if (zi h p36 i37 3) = 0 then
          zb (zm122 x0 x3 x2 h) fun x42 h41 =>
          if x42 = 0 then
            some (.inl (0 : Int32), h41)
          else
            zra (zr h41 p23 i24 7) x3 h41 fun v51 =>
            zob 2 v51 fun p53 i54 =>
            zlet (zi h41 p53 i54 2) fun x57 =>
            zlet (x4 + (1 : Int32)) fun x59 =>
            zm121_4 n x0 x2 x57 x59 h41
        else
          some (.inl (0 : Int32), h)
theorem zmS121_4 : ∀ (n : Nat) (x0 : zq) (x2 : Int32) (x3 : Int32) (x4 : Int32) (h : zH) (r : Int32 ⊕ Nat) (h' : zH), zm121_4 n x0 x2 x3 x4 h = some (r, h') → zAt 121 4 [some (zrv x0), none, some (zI x2), some (zI x3), some (zI x4)] [] h (zoI r) h' := by
  intro n
  induction n with
  | zero => intro x0 x2 x3 x4 h r h' H; cases H
  | succ n ih =>
    intro x0 x2 x3 x4 h r h' H
    unfold zm121_4 at H
    refine zA_ld rfl rfl rfl ?_
    refine zA_push rfl rfl zkk0 ?_
    rcases zite_e H with ⟨c21, H⟩ | ⟨c21, H⟩
    · refine zA_brT (c := (8 : Int32) ≤ x4) rfl rfl rfl c21 ?_
      refine zA_tr (L := [none, none, none, none, none]) rfl rfl ?_
      refine zA_push rfl rfl zkk5 ?_
      cases H
      exact zA_ret rfl (zret_Z (by decide))
    · refine zA_brF (c := (8 : Int32) ≤ x4) rfl rfl rfl c21 ?_
      refine zA_ldn rfl rfl rfl ?_
      refine zA_push rfl rfl zkk6 ?_
      rcases zite_e H with ⟨c22, H⟩ | ⟨c22, H⟩
      · refine zA_brT (c := x3 = (-1 : Int32)) rfl rfl rfl c22 ?_
        refine zA_tr (L := [none, none, none, none, none]) rfl rfl ?_
        refine zA_push rfl rfl zkk5 ?_
        cases H
        exact zA_ret rfl (zret_Z (by decide))
      · refine zA_brF (c := x3 = (-1 : Int32)) rfl rfl rfl c22 ?_
        refine zA_aldn rfl rfl rfl ?_
        obtain ⟨p23, i24, e25, c26, H⟩ := zob_e H
        refine zA_gf3 rfl rfl e25 c26 ?_
        refine zA_ldn rfl rfl rfl ?_
        obtain ⟨p27, i28, j29, v34, e30, c31, c32, e33, e35, H⟩ := zra_e H
        refine zA_aal rfl rfl e30 c31 c32 e33 e35 ?_
        obtain ⟨p36, i37, e38, c39, H⟩ := zob_e H
        refine zA_gf0 rfl rfl (Or.inr rfl) e38 c39 ?_
        rcases zite_e H with ⟨c40, H⟩ | ⟨c40, H⟩
        · refine zA_brF' (c := (zi h p36 i37 3) = 0) rfl rfl rfl c40 ?_
          refine zA_aldn rfl rfl rfl ?_
          refine zA_ldn rfl rfl rfl ?_
          refine zA_ldn rfl rfl rfl ?_
          rcases zb_e H with ⟨x42, h41, C, H⟩ | ⟨E, h41, C, H⟩
          · refine zA_callV (as := [zrv x0, zI x3, zI x2]) (st' := []) rfl rfl rfl (zrcv_Q e25 c26) rfl (zmE122 _ _ _) rfl (zmS122 C) ?_
            rcases zite_e H with ⟨c43, H⟩ | ⟨c43, H⟩
            · refine zA_brF' (c := x42 = 0) rfl rfl rfl c43 ?_
              refine zA_tr (L := [none, none, none, none, none]) rfl rfl ?_
              refine zA_push rfl rfl zkk7 ?_
              cases H
              exact zA_ret rfl (zret_Z (by decide))
            · refine zA_brT' (c := x42 = 0) rfl rfl rfl c43 ?_
              refine zA_aldn rfl rfl rfl ?_
              refine zA_gf3 rfl rfl e25 c26 ?_
              refine zA_ldn rfl rfl rfl ?_
              obtain ⟨p44, i45, j46, v51, e47, c48, c49, e50, e52, H⟩ := zra_e H
              refine zA_aal rfl rfl e47 c48 c49 e50 e52 ?_
              obtain ⟨p53, i54, e55, c56, H⟩ := zob_e H
              refine zA_gf0 rfl rfl (Or.inl rfl) e55 c56 ?_
              obtain ⟨x57, e58, H⟩ := zlet_e H
              refine zA_istn2 rfl rfl e58 (zset1 (L' := [some (zrv x0), none, some (zI x2), some (zI x57), some (zI x4)]) rfl rfl (zpcV rfl rfl)) ?_
              obtain ⟨x59, e60, H⟩ := zlet_e H
              refine zA_inc rfl rfl rfl (e60.trans (congrArg (_ + ·) zkk8)) (zset1 (L' := [some (zrv x0), none, some (zI x2), some (zI x57), some (zI x59)]) rfl rfl (zpcV rfl rfl)) ?_
              refine zA_go rfl rfl ?_
              exact zA_tr (L := [some (zrv x0), none, some (zI x2), some (zI x57), some (zI x59)]) rfl rfl (ih _ _ _ _ _ _ _ H)
          · cases H
            exact zA_callX (as := [zrv x0, zI x3, zI x2]) (st' := []) rfl rfl (zrcv_Q e25 c26) rfl (zmE122 _ _ _) rfl rfl rfl (zmS122 C)
        · refine zA_brT' (c := (zi h p36 i37 3) = 0) rfl rfl rfl c40 ?_
          refine zA_tr (L := [none, none, none, none, none]) rfl rfl ?_
          refine zA_push rfl rfl zkk7 ?_
          cases H
          exact zA_ret rfl (zret_Z (by decide))
-- 121: ReleaseHouse.isFlagOn(II)Z
def zm121 (x0 : zq) (x1 : Int32) (x2 : Int32) (h : zH) : zRs Int32 :=
  zm121_4 zN0 x0 x2 x1 (0 : Int32) h
theorem zmS121 {x0 : zq} {x1 : Int32} {x2 : Int32} {h : zH} {r : Int32 ⊕ Nat} {h' : zH} (H : zm121 x0 x1 x2 h = some (r, h')) : zAt 121 0 [some (zrv x0), some (zI x1), some (zI x2), none, none] [] h (zoI r) h' := by
  unfold zm121 at H
  refine zA_ldn rfl rfl rfl ?_
  refine zA_istn2 rfl rfl rfl (zset1 (L' := [some (zrv x0), some (zI x1), some (zI x2), some (zI x1), none]) rfl rfl (zpcV rfl rfl)) ?_
  refine zA_push rfl rfl zkk7 ?_
  refine zA_ist2 rfl rfl rfl (zset1 (L' := [some (zrv x0), some (zI x1), some (zI x2), some (zI x1), some (zI (0 : Int32))]) rfl rfl (zpcV rfl rfl)) ?_
  exact zA_tr (L := [some (zrv x0), none, some (zI x2), some (zI x1), some (zI (0 : Int32))]) rfl rfl (zmS121_4 zN0 _ _ _ _ _ _ _ H)
theorem zmE121 (x0 : zq) (x1 : Int32) (x2 : Int32) : zpad (zPr.2.1 121).1 (zil [zrv x0, zI x1, zI x2]) = [some (zrv x0), some (zI x1), some (zI x2), none, none] := by
  simp only [zil_A, zil_I, zil_F, zil_D, zil_N]
  rfl
-- 120: ReleaseHouse.isOn(II)Z
def zm120 (x0 : zq) (x1 : Int32) (x2 : Int32) (h : zH) : zRs Int32 :=
  zb (zm131 x1 (0 : Int32) (7 : Int32) h) fun _ h21 =>
  zb (zm131 x2 (0 : Int32) (199 : Int32) h21) fun _ h22 =>
  zob 11 x0 fun p23 i24 =>
  zra (zr h22 p23 i24 7) x1 h22 fun v34 =>
  zob 2 v34 fun p36 i37 =>
  zlet (zsi h22 p36 i37 4 (zi h22 p23 i24 11)) fun h40 =>
  zb (zm121 x0 x1 x2 h40) fun x43 h42 =>
  zif (x43 = 0 ∨ x43 = 1) <|
  some (.inl x43, h42)
theorem zmS120 {x0 : zq} {x1 : Int32} {x2 : Int32} {h : zH} {r : Int32 ⊕ Nat} {h' : zH} (H : zm120 x0 x1 x2 h = some (r, h')) : zAt 120 0 [some (zrv x0), some (zI x1), some (zI x2)] [] h (zoI r) h' := by
  unfold zm120 at H
  refine zA_ldn rfl rfl rfl ?_
  refine zA_push rfl rfl zkk7 ?_
  refine zA_push rfl rfl zkk22 ?_
  rcases zb_e H with ⟨u46, h21, C, H⟩ | ⟨E, h21, C, H⟩
  · refine zA_callU (as := [zI x1, zI (0 : Int32), zI (7 : Int32)]) (st' := []) rfl rfl rfl rfl rfl (zmE131 _ _ _) rfl (zmS131 C) ?_
    refine zA_ldn rfl rfl rfl ?_
    refine zA_push rfl rfl zkk7 ?_
    refine zA_push rfl rfl zkk48 ?_
    rcases zb_e H with ⟨u45, h22, C, H⟩ | ⟨E, h22, C, H⟩
    · refine zA_callU (as := [zI x2, zI (0 : Int32), zI (199 : Int32)]) (st' := []) rfl rfl rfl rfl rfl (zmE131 _ _ _) rfl (zmS131 C) ?_
      refine zA_aldn rfl rfl rfl ?_
      obtain ⟨p23, i24, e25, c26, H⟩ := zob_e H
      refine zA_gf3 rfl rfl e25 c26 ?_
      refine zA_ldn rfl rfl rfl ?_
      obtain ⟨p27, i28, j29, v34, e30, c31, c32, e33, e35, H⟩ := zra_e H
      refine zA_aal rfl rfl e30 c31 c32 e33 e35 ?_
      refine zA_aldn rfl rfl rfl ?_
      refine zA_gf0 rfl rfl (Or.inl rfl) e25 c26 ?_
      obtain ⟨p36, i37, e38, c39, H⟩ := zob_e H
      obtain ⟨h40, e41, H⟩ := zlet_e H
      refine zA_pf0 rfl rfl e38 c39 e41 ?_
      refine zA_aldn rfl rfl rfl ?_
      refine zA_ldn rfl rfl rfl ?_
      refine zA_ldn rfl rfl rfl ?_
      rcases zb_e H with ⟨x43, h42, C, H⟩ | ⟨E, h42, C, H⟩
      · refine zA_callV (as := [zrv x0, zI x1, zI x2]) (st' := []) rfl rfl rfl (zrcv_Q e25 c26) rfl (zmE121 _ _ _) rfl (zmS121 C) ?_
        obtain ⟨c44, H⟩ := zif_e H
        cases H
        exact zA_ret rfl (zret_Z c44)
      · cases H
        exact zA_callX (as := [zrv x0, zI x1, zI x2]) (st' := []) rfl rfl (zrcv_Q e25 c26) rfl (zmE121 _ _ _) rfl rfl rfl (zmS121 C)
    · cases H
      exact zA_callX (as := [zI x2, zI (0 : Int32), zI (199 : Int32)]) (st' := []) rfl rfl rfl rfl (zmE131 _ _ _) rfl rfl rfl (zmS131 C)
  · cases H
    exact zA_callX (as := [zI x1, zI (0 : Int32), zI (7 : Int32)]) (st' := []) rfl rfl rfl rfl (zmE131 _ _ _) rfl rfl rfl (zmS131 C)
theorem zmE120 (x0 : zq) (x1 : Int32) (x2 : Int32) : zpad (zPr.2.1 120).1 (zil [zrv x0, zI x1, zI x2]) = [some (zrv x0), some (zI x1), some (zI x2)] := by
  simp only [zil_A, zil_I, zil_F, zil_D, zil_N]
  rfl
def zm287_10 (s0 : zq) (s1 : Int32) (s2 : Int64) (h : zH) : zRs Int32 :=
  zar 3 s0 s1 h fun p21 i22 j23 =>
  zlet (zsl h p21 i22 j23 s2) fun h28 =>
  some (.inl (0 : Int32), h28)
theorem zmS287_10 : ∀ (s0 : zq) (s1 : Int32) (s2 : Int64) (h : zH) (r : Int32 ⊕ Nat) (h' : zH), zm287_10 s0 s1 s2 h = some (r, h') → zAt 287 10 [none, none, none, none, none] [zJ s2, zI s1, zrv s0] h (zoI r) h' := by
  intro s0 s1 s2 h r h' H
  unfold zm287_10 at H
  obtain ⟨p21, i22, j23, e24, c25, c26, e27, H⟩ := zar_e H
  obtain ⟨h28, e29, H⟩ := zlet_e H
  refine zA_las rfl rfl e24 c25 c26 e27 e29 ?_
  refine zA_go rfl rfl ?_
  refine zA_push rfl rfl zkk7 ?_
  cases H
  exact zA_ret rfl rfl
-- 287: ReleaseHouseLaw.isOn(LReleaseHouse;II[J)I
def zm287 (x0 : zq) (x1 : Int32) (x2 : Int32) (x3 : zq) (h : zH) : zRs Int32 :=
  zob 11 x0 fun p21 i22 =>
  zbH [(0, 11, 0, 1)] 5 (zm120 x0 x1 x2 h) fun x26 h25 =>
  if x26 = 0 then
    zm287_10 x3 (0 : Int32) (0 : Int64) h25
  else
    zm287_10 x3 (0 : Int32) (1 : Int64) h25
theorem zmS287 {x0 : zq} {x1 : Int32} {x2 : Int32} {x3 : zq} {h : zH} {r : Int32 ⊕ Nat} {h' : zH} (H : zm287 x0 x1 x2 x3 h = some (r, h')) : zAt 287 0 [some (zrv x0), some (zI x1), some (zI x2), some (zrv x3), none] [] h (zoI r) h' := by
  unfold zm287 at H
  refine zA_aldn rfl rfl rfl ?_
  refine zA_push rfl rfl zkk7 ?_
  refine zA_aldn rfl rfl rfl ?_
  refine zA_ldn rfl rfl rfl ?_
  refine zA_ldn rfl rfl rfl ?_
  obtain ⟨p21, i22, e23, c24, H⟩ := zob_e H
  rcases zbH_e H with ⟨x26, h25, C, H⟩ | ⟨E, h25, c28, C, hc, H⟩
  · refine zA_callV (as := [zrv x0, zI x1, zI x2]) (st' := [zI (0 : Int32), zrv x3]) rfl rfl rfl (zrcv_Q e23 c24) rfl (zmE120 _ _ _) rfl (zmS120 C) ?_
    rcases zite_e H with ⟨c27, H⟩ | ⟨c27, H⟩
    · refine zA_brT (c := x26 = 0) rfl rfl rfl c27 ?_
      refine zA_tr (L := [none, none, none, none, none]) rfl rfl ?_
      refine zA_push rfl rfl zkk24 ?_
      exact zA_tr (L := [none, none, none, none, none]) rfl rfl (zmS287_10 _ _ _ _ _ _ H)
    · refine zA_brF (c := x26 = 0) rfl rfl rfl c27 ?_
      refine zA_push rfl rfl zkk25 ?_
      refine zA_go rfl rfl ?_
      exact zA_tr (L := [none, none, none, none, none]) rfl rfl (zmS287_10 _ _ _ _ _ _ H)
  · cases H
    exact zA_callH (as := [zrv x0, zI x1, zI x2]) (st' := [zI (0 : Int32), zrv x3]) rfl rfl (zrcv_Q e23 c24) rfl (zmE120 _ _ _) rfl rfl rfl (List.cons_ne_nil _ _) hc (zmS120 C)
theorem zmE287 (x0 : zq) (x1 : Int32) (x2 : Int32) (x3 : zq) : zpad (zPr.2.1 287).1 (zil [zrv x0, zI x1, zI x2, zrv x3]) = [some (zrv x0), some (zI x1), some (zI x2), some (zrv x3), none] := by
  simp only [zil_A, zil_I, zil_F, zil_D, zil_N]
  rfl
def zm234_84 (k12 : zq → Int32 → Int32 → Int32 → Int32 → zH → zRs Int32) (x0 : zq) (x1 : Int32) (x2 : Int32) (x4 : Int32) (s0 : Int32) (h : zH) : zRs Int32 :=
  zlet (x4 + (-1 : Int32)) fun x21 =>
  k12 x0 x1 x2 s0 x21 h
theorem zmS234_84 {k12 : zq → Int32 → Int32 → Int32 → Int32 → zH → zRs Int32} (hk12 : ∀ (x0 : zq) (x1 : Int32) (x2 : Int32) (x3 : Int32) (x4 : Int32) (h : zH) (r : Int32 ⊕ Nat) (h' : zH), k12 x0 x1 x2 x3 x4 h = some (r, h') → zAt 234 12 [some (zrv x0), some (zI x1), some (zI x2), some (zI x3), some (zI x4), none, none, none] [] h (zoI r) h') : ∀ (x0 : zq) (x1 : Int32) (x2 : Int32) (x4 : Int32) (s0 : Int32) (h : zH) (r : Int32 ⊕ Nat) (h' : zH), zm234_84 k12 x0 x1 x2 x4 s0 h = some (r, h') → zAt 234 84 [some (zrv x0), some (zI x1), some (zI x2), none, some (zI x4), none, none, none] [zI s0] h (zoI r) h' := by
  intro x0 x1 x2 x4 s0 h r h' H
  unfold zm234_84 at H
  refine zA_istn2 rfl rfl rfl (zset1 (L' := [some (zrv x0), some (zI x1), some (zI x2), some (zI s0), some (zI x4), none, none, none]) rfl rfl (zpcV rfl rfl)) ?_
  obtain ⟨x21, e22, H⟩ := zlet_e H
  refine zA_inc rfl rfl rfl (e22.trans (congrArg (_ + ·) zkk50)) (zset1 (L' := [some (zrv x0), some (zI x1), some (zI x2), some (zI s0), some (zI x21), none, none, none]) rfl rfl (zpcV rfl rfl)) ?_
  refine zA_go rfl rfl ?_
  exact zA_tr (L := [some (zrv x0), some (zI x1), some (zI x2), some (zI s0), some (zI x21), none, none, none]) rfl rfl (hk12 _ _ _ _ _ _ _ _ H)
def zm234_67 (k12 : zq → Int32 → Int32 → Int32 → Int32 → zH → zRs Int32) (x0 : zq) (x1 : Int32) (x2 : Int32) (x3 : Int32) (x4 : Int32) (x5 : Int32) (s0 : Int32) (h : zH) : zRs Int32 :=
  if s0 = 0 then
    zm234_84 k12 x0 x1 x2 x4 x3 h
  else
    zob 12 x0 fun p22 i23 =>
    zri (zr h p22 i23 69) x5 h fun v33 =>
    if v33 = (1 : Int32) then
      zm234_84 k12 x0 x1 x2 x4 (100 : Int32) h
    else
      zri (zr h p22 i23 69) x5 h fun v43 =>
      zm234_84 k12 x0 x1 x2 x4 v43 h
theorem zmS234_67 {k12 : zq → Int32 → Int32 → Int32 → Int32 → zH → zRs Int32} (hk12 : ∀ (x0 : zq) (x1 : Int32) (x2 : Int32) (x3 : Int32) (x4 : Int32) (h : zH) (r : Int32 ⊕ Nat) (h' : zH), k12 x0 x1 x2 x3 x4 h = some (r, h') → zAt 234 12 [some (zrv x0), some (zI x1), some (zI x2), some (zI x3), some (zI x4), none, none, none] [] h (zoI r) h') : ∀ (x0 : zq) (x1 : Int32) (x2 : Int32) (x3 : Int32) (x4 : Int32) (x5 : Int32) (s0 : Int32) (h : zH) (r : Int32 ⊕ Nat) (h' : zH), zm234_67 k12 x0 x1 x2 x3 x4 x5 s0 h = some (r, h') → zAt 234 67 [some (zrv x0), some (zI x1), some (zI x2), some (zI x3), some (zI x4), some (zI x5), none, none] [zI s0] h (zoI r) h' := by
  intro x0 x1 x2 x3 x4 x5 s0 h r h' H
  unfold zm234_67 at H
  refine zA_ist2 rfl rfl rfl (zset1 (L' := [some (zrv x0), some (zI x1), some (zI x2), some (zI x3), some (zI x4), some (zI x5), none, some (zI s0)]) rfl rfl (zpcN rfl)) ?_
  refine zA_ld rfl rfl rfl ?_
  rcases zite_e H with ⟨c21, H⟩ | ⟨c21, H⟩
  · refine zA_brF' (c := s0 = 0) rfl rfl rfl c21 ?_
    refine zA_ldn rfl rfl rfl ?_
    refine zA_go rfl rfl ?_
    exact zA_tr (L := [some (zrv x0), some (zI x1), some (zI x2), none, some (zI x4), none, none, none]) rfl rfl (zmS234_84 hk12 _ _ _ _ _ _ _ _ H)
  · refine zA_brT' (c := s0 = 0) rfl rfl rfl c21 ?_
    refine zA_tr (L := [some (zrv x0), some (zI x1), some (zI x2), none, some (zI x4), some (zI x5), none, none]) rfl rfl ?_
    refine zA_aldn rfl rfl rfl ?_
    obtain ⟨p22, i23, e24, c25, H⟩ := zob_e H
    refine zA_gf3 rfl rfl e24 c25 ?_
    refine zA_ld rfl rfl rfl ?_
    obtain ⟨p26, i27, j28, v33, e29, c30, c31, e32, e34, H⟩ := zri_e H
    refine zA_ial rfl rfl e29 c30 c31 e32 e34 ?_
    refine zA_push rfl rfl zkk5 ?_
    rcases zite_e H with ⟨c35, H⟩ | ⟨c35, H⟩
    · refine zA_brF' (c := v33 = (1 : Int32)) rfl rfl rfl c35 ?_
      refine zA_push rfl rfl zkk29 ?_
      refine zA_go rfl rfl ?_
      exact zA_tr (L := [some (zrv x0), some (zI x1), some (zI x2), none, some (zI x4), none, none, none]) rfl rfl (zmS234_84 hk12 _ _ _ _ _ _ _ _ H)
    · refine zA_brT' (c := v33 = (1 : Int32)) rfl rfl rfl c35 ?_
      refine zA_aldn rfl rfl rfl ?_
      refine zA_gf3 rfl rfl e24 c25 ?_
      refine zA_ld rfl rfl rfl ?_
      obtain ⟨p36, i37, j38, v43, e39, c40, c41, e42, e44, H⟩ := zri_e H
      refine zA_ial rfl rfl e39 c40 c41 e42 e44 ?_
      exact zA_tr (L := [some (zrv x0), some (zI x1), some (zI x2), none, some (zI x4), none, none, none]) rfl rfl (zmS234_84 hk12 _ _ _ _ _ _ _ _ H)
def zm234_42 (k12 : zq → Int32 → Int32 → Int32 → Int32 → zH → zRs Int32) (x0 : zq) (x1 : Int32) (x2 : Int32) (x3 : Int32) (x4 : Int32) (x5 : Int32) (s0 : Int32) (h : zH) : zRs Int32 :=
  zob 12 x0 fun p21 i22 =>
  zrb (zr h p21 i22 67) x5 h fun v32 =>
  if v32 = 0 then
    zri (zr h p21 i22 68) x5 h fun v42 =>
    if s0 = v42 then
      zm234_67 k12 x0 x1 x2 x3 x4 x5 (1 : Int32) h
    else
      zm234_67 k12 x0 x1 x2 x3 x4 x5 (0 : Int32) h
  else
    zri (zr h p21 i22 68) x5 h fun v52 =>
    if s0 < v52 then
      zm234_67 k12 x0 x1 x2 x3 x4 x5 (0 : Int32) h
    else
      zm234_67 k12 x0 x1 x2 x3 x4 x5 (1 : Int32) h
theorem zmS234_42 {k12 : zq → Int32 → Int32 → Int32 → Int32 → zH → zRs Int32} (hk12 : ∀ (x0 : zq) (x1 : Int32) (x2 : Int32) (x3 : Int32) (x4 : Int32) (h : zH) (r : Int32 ⊕ Nat) (h' : zH), k12 x0 x1 x2 x3 x4 h = some (r, h') → zAt 234 12 [some (zrv x0), some (zI x1), some (zI x2), some (zI x3), some (zI x4), none, none, none] [] h (zoI r) h') : ∀ (x0 : zq) (x1 : Int32) (x2 : Int32) (x3 : Int32) (x4 : Int32) (x5 : Int32) (s0 : Int32) (h : zH) (r : Int32 ⊕ Nat) (h' : zH), zm234_42 k12 x0 x1 x2 x3 x4 x5 s0 h = some (r, h') → zAt 234 42 [some (zrv x0), some (zI x1), some (zI x2), some (zI x3), some (zI x4), some (zI x5), none, none] [zI s0] h (zoI r) h' := by
  intro x0 x1 x2 x3 x4 x5 s0 h r h' H
  unfold zm234_42 at H
  refine zA_ist2 rfl rfl rfl (zset1 (L' := [some (zrv x0), some (zI x1), some (zI x2), some (zI x3), some (zI x4), some (zI x5), some (zI s0), none]) rfl rfl (zpcV rfl rfl)) ?_
  refine zA_aldn rfl rfl rfl ?_
  obtain ⟨p21, i22, e23, c24, H⟩ := zob_e H
  refine zA_gf3 rfl rfl e23 c24 ?_
  refine zA_ld rfl rfl rfl ?_
  obtain ⟨p25, i26, j27, v32, e28, c29, c30, e31, e33, H⟩ := zrb_e H
  refine zA_bal rfl rfl e28 c29 c30 e31 e33 ?_
  rcases zite_e H with ⟨c34, H⟩ | ⟨c34, H⟩
  · refine zA_brT (c := v32 = 0) rfl rfl rfl c34 ?_
    refine zA_ld rfl rfl rfl ?_
    refine zA_aldn rfl rfl rfl ?_
    refine zA_gf3 rfl rfl e23 c24 ?_
    refine zA_ld rfl rfl rfl ?_
    obtain ⟨p35, i36, j37, v42, e38, c39, c40, e41, e43, H⟩ := zri_e H
    refine zA_ial rfl rfl e38 c39 c40 e41 e43 ?_
    rcases zite_e H with ⟨c44, H⟩ | ⟨c44, H⟩
    · refine zA_brF' (c := s0 = v42) rfl rfl rfl c44 ?_
      refine zA_push rfl rfl zkk5 ?_
      refine zA_go rfl rfl ?_
      exact zA_tr (L := [some (zrv x0), some (zI x1), some (zI x2), some (zI x3), some (zI x4), some (zI x5), none, none]) rfl rfl (zmS234_67 hk12 _ _ _ _ _ _ _ _ _ _ H)
    · refine zA_brT' (c := s0 = v42) rfl rfl rfl c44 ?_
      refine zA_tr (L := [some (zrv x0), some (zI x1), some (zI x2), some (zI x3), some (zI x4), some (zI x5), none, none]) rfl rfl ?_
      refine zA_push rfl rfl zkk7 ?_
      exact zA_tr (L := [some (zrv x0), some (zI x1), some (zI x2), some (zI x3), some (zI x4), some (zI x5), none, none]) rfl rfl (zmS234_67 hk12 _ _ _ _ _ _ _ _ _ _ H)
  · refine zA_brF (c := v32 = 0) rfl rfl rfl c34 ?_
    refine zA_ld rfl rfl rfl ?_
    refine zA_aldn rfl rfl rfl ?_
    refine zA_gf3 rfl rfl e23 c24 ?_
    refine zA_ld rfl rfl rfl ?_
    obtain ⟨p45, i46, j47, v52, e48, c49, c50, e51, e53, H⟩ := zri_e H
    refine zA_ial rfl rfl e48 c49 c50 e51 e53 ?_
    rcases zite_e H with ⟨c54, H⟩ | ⟨c54, H⟩
    · refine zA_brT (c := s0 < v52) rfl rfl rfl c54 ?_
      refine zA_tr (L := [some (zrv x0), some (zI x1), some (zI x2), some (zI x3), some (zI x4), some (zI x5), none, none]) rfl rfl ?_
      refine zA_push rfl rfl zkk7 ?_
      refine zA_go rfl rfl ?_
      exact zA_tr (L := [some (zrv x0), some (zI x1), some (zI x2), some (zI x3), some (zI x4), some (zI x5), none, none]) rfl rfl (zmS234_67 hk12 _ _ _ _ _ _ _ _ _ _ H)
    · refine zA_brF (c := s0 < v52) rfl rfl rfl c54 ?_
      refine zA_push rfl rfl zkk5 ?_
      refine zA_go rfl rfl ?_
      exact zA_tr (L := [some (zrv x0), some (zI x1), some (zI x2), some (zI x3), some (zI x4), some (zI x5), none, none]) rfl rfl (zmS234_67 hk12 _ _ _ _ _ _ _ _ _ _ H)
def zm234_12 (k87 : zq → Int32 → Int32 → Int32 → zH → zRs Int32) : Nat → zq → Int32 → Int32 → Int32 → Int32 → zH → zRs Int32
  | 0, _, _, _, _, _, _ => none
  | n + 1, x0, x1, x2, x3, x4, h =>
    if x4 < 0 then
      k87 x0 x1 x2 x3 h
    else
      zlet (((4 : Int32) * x1) + x4) fun x22 =>
      zob 12 x0 fun p24 i25 =>
      zri (zr h p24 i25 66) x22 h fun v35 =>
      if v35 = 0 then
        zb (zm144 x2 h) fun x39 h38 =>
        zm234_42 (zm234_12 k87 n) x0 x1 x2 x3 x4 x22 x39 h38
      else
        zri (zr h p24 i25 66) x22 h fun v47 =>
        if v47 = (1 : Int32) then
          zm234_42 (zm234_12 k87 n) x0 x1 x2 x3 x4 x22 (x2 - x2 / (7 : Int32) * (7 : Int32)) h
        else
          zri (zr h p24 i25 70) x2 h fun v58 =>
          zm234_42 (zm234_12 k87 n) x0 x1 x2 x3 x4 x22 v58 h
theorem zmS234_12 {k87 : zq → Int32 → Int32 → Int32 → zH → zRs Int32} (hk87 : ∀ (x0 : zq) (x1 : Int32) (x2 : Int32) (x3 : Int32) (h : zH) (r : Int32 ⊕ Nat) (h' : zH), k87 x0 x1 x2 x3 h = some (r, h') → zAt 234 87 [some (zrv x0), some (zI x1), some (zI x2), some (zI x3), none, none, none, none] [] h (zoI r) h') : ∀ (n : Nat) (x0 : zq) (x1 : Int32) (x2 : Int32) (x3 : Int32) (x4 : Int32) (h : zH) (r : Int32 ⊕ Nat) (h' : zH), zm234_12 k87 n x0 x1 x2 x3 x4 h = some (r, h') → zAt 234 12 [some (zrv x0), some (zI x1), some (zI x2), some (zI x3), some (zI x4), none, none, none] [] h (zoI r) h' := by
  intro n
  induction n with
  | zero => intro x0 x1 x2 x3 x4 h r h' H; cases H
  | succ n ih =>
    intro x0 x1 x2 x3 x4 h r h' H
    unfold zm234_12 at H
    refine zA_ld rfl rfl rfl ?_
    rcases zite_e H with ⟨c21, H⟩ | ⟨c21, H⟩
    · refine zA_brT (c := x4 < 0) rfl rfl rfl c21 ?_
      exact zA_tr (L := [some (zrv x0), some (zI x1), some (zI x2), some (zI x3), none, none, none, none]) rfl rfl (hk87 _ _ _ _ _ _ _ H)
    · refine zA_brF (c := x4 < 0) rfl rfl rfl c21 ?_
      refine zA_push rfl rfl zkk9 ?_
      refine zA_ldn rfl rfl rfl ?_
      refine zA_st (st' := [zI ((4 : Int32) * x1)]) rfl rfl rfl rfl ?_
      refine zA_ld rfl rfl rfl ?_
      refine zA_st (st' := [zI (((4 : Int32) * x1) + x4)]) rfl rfl rfl rfl ?_
      obtain ⟨x22, e23, H⟩ := zlet_e H
      refine zA_ist2 rfl rfl e23 (zset1 (L' := [some (zrv x0), some (zI x1), some (zI x2), some (zI x3), some (zI x4), some (zI x22), none, none]) rfl rfl (zpcV rfl rfl)) ?_
      refine zA_aldn rfl rfl rfl ?_
      obtain ⟨p24, i25, e26, c27, H⟩ := zob_e H
      refine zA_gf3 rfl rfl e26 c27 ?_
      refine zA_ld rfl rfl rfl ?_
      obtain ⟨p28, i29, j30, v35, e31, c32, c33, e34, e36, H⟩ := zri_e H
      refine zA_ial rfl rfl e31 c32 c33 e34 e36 ?_
      rcases zite_e H with ⟨c37, H⟩ | ⟨c37, H⟩
      · refine zA_brF' (c := v35 = 0) rfl rfl rfl c37 ?_
        refine zA_ldn rfl rfl rfl ?_
        rcases zb_e H with ⟨x39, h38, C, H⟩ | ⟨E, h38, C, H⟩
        · refine zA_callV (as := [zI x2]) (st' := []) rfl rfl rfl rfl rfl (zmE144 _) rfl (zmS144 C) ?_
          refine zA_go rfl rfl ?_
          exact zA_tr (L := [some (zrv x0), some (zI x1), some (zI x2), some (zI x3), some (zI x4), some (zI x22), none, none]) rfl rfl (zmS234_42 ih _ _ _ _ _ _ _ _ _ _ H)
        · cases H
          exact zA_callX (as := [zI x2]) (st' := []) rfl rfl rfl rfl (zmE144 _) rfl rfl rfl (zmS144 C)
      · refine zA_brT' (c := v35 = 0) rfl rfl rfl c37 ?_
        refine zA_aldn rfl rfl rfl ?_
        refine zA_gf3 rfl rfl e26 c27 ?_
        refine zA_ld rfl rfl rfl ?_
        obtain ⟨p40, i41, j42, v47, e43, c44, c45, e46, e48, H⟩ := zri_e H
        refine zA_ial rfl rfl e43 c44 c45 e46 e48 ?_
        refine zA_push rfl rfl zkk5 ?_
        rcases zite_e H with ⟨c49, H⟩ | ⟨c49, H⟩
        · refine zA_brF' (c := v47 = (1 : Int32)) rfl rfl rfl c49 ?_
          refine zA_ldn rfl rfl rfl ?_
          refine zA_push rfl rfl zkk22 ?_
          refine zA_rem rfl rfl (by decide) ?_
          refine zA_go rfl rfl ?_
          exact zA_tr (L := [some (zrv x0), some (zI x1), some (zI x2), some (zI x3), some (zI x4), some (zI x22), none, none]) rfl rfl (zmS234_42 ih _ _ _ _ _ _ _ _ _ _ H)
        · refine zA_brT' (c := v47 = (1 : Int32)) rfl rfl rfl c49 ?_
          refine zA_aldn rfl rfl rfl ?_
          refine zA_gf3 rfl rfl e26 c27 ?_
          refine zA_ldn rfl rfl rfl ?_
          obtain ⟨p51, i52, j53, v58, e54, c55, c56, e57, e59, H⟩ := zri_e H
          refine zA_ial rfl rfl e54 c55 c56 e57 e59 ?_
          exact zA_tr (L := [some (zrv x0), some (zI x1), some (zI x2), some (zI x3), some (zI x4), some (zI x22), none, none]) rfl rfl (zmS234_42 ih _ _ _ _ _ _ _ _ _ _ H)
def zm234_87 (x0 : zq) (x1 : Int32) (x2 : Int32) (x3 : Int32) (h : zH) : zRs Int32 :=
  zob 12 x0 fun p21 i22 =>
  zrb (zr h p21 i22 63) x1 h fun v32 =>
  if v32 = 0 then
    if x3 ≤ ((((53 : Int32) * x2) + ((29 : Int32) * x1)) - (((53 : Int32) * x2) + ((29 : Int32) * x1)) / (100 : Int32) * (100 : Int32)) then
      some (.inl (0 : Int32), h)
    else
      some (.inl (1 : Int32), h)
  else
    some (.inl (0 : Int32), h)
theorem zmS234_87 : ∀ (x0 : zq) (x1 : Int32) (x2 : Int32) (x3 : Int32) (h : zH) (r : Int32 ⊕ Nat) (h' : zH), zm234_87 x0 x1 x2 x3 h = some (r, h') → zAt 234 87 [some (zrv x0), some (zI x1), some (zI x2), some (zI x3), none, none, none, none] [] h (zoI r) h' := by
  intro x0 x1 x2 x3 h r h' H
  unfold zm234_87 at H
  refine zA_aldn rfl rfl rfl ?_
  obtain ⟨p21, i22, e23, c24, H⟩ := zob_e H
  refine zA_gf3 rfl rfl e23 c24 ?_
  refine zA_ldn rfl rfl rfl ?_
  obtain ⟨p25, i26, j27, v32, e28, c29, c30, e31, e33, H⟩ := zrb_e H
  refine zA_bal rfl rfl e28 c29 c30 e31 e33 ?_
  rcases zite_e H with ⟨c34, H⟩ | ⟨c34, H⟩
  · refine zA_brF' (c := v32 = 0) rfl rfl rfl c34 ?_
    refine zA_push rfl rfl zkk57 ?_
    refine zA_ldn rfl rfl rfl ?_
    refine zA_st (st' := [zI ((53 : Int32) * x2)]) rfl rfl rfl rfl ?_
    refine zA_push rfl rfl zkk58 ?_
    refine zA_ldn rfl rfl rfl ?_
    refine zA_st (st' := [zI ((29 : Int32) * x1), zI ((53 : Int32) * x2)]) rfl rfl rfl rfl ?_
    refine zA_st (st' := [zI (((53 : Int32) * x2) + ((29 : Int32) * x1))]) rfl rfl rfl rfl ?_
    refine zA_push rfl rfl zkk29 ?_
    refine zA_rem rfl rfl (by decide) ?_
    refine zA_ldn rfl rfl rfl ?_
    rcases zite_e H with ⟨c36, H⟩ | ⟨c36, H⟩
    · refine zA_brT (c := x3 ≤ ((((53 : Int32) * x2) + ((29 : Int32) * x1)) - (((53 : Int32) * x2) + ((29 : Int32) * x1)) / (100 : Int32) * (100 : Int32))) rfl rfl rfl c36 ?_
      refine zA_tr (L := [none, none, none, none, none, none, none, none]) rfl rfl ?_
      refine zA_push rfl rfl zkk7 ?_
      cases H
      exact zA_ret rfl (zret_Z (by decide))
    · refine zA_brF (c := x3 ≤ ((((53 : Int32) * x2) + ((29 : Int32) * x1)) - (((53 : Int32) * x2) + ((29 : Int32) * x1)) / (100 : Int32) * (100 : Int32))) rfl rfl rfl c36 ?_
      refine zA_push rfl rfl zkk5 ?_
      refine zA_go rfl rfl ?_
      refine zA_tr (L := [none, none, none, none, none, none, none, none]) rfl rfl ?_
      cases H
      exact zA_ret rfl (zret_Z (by decide))
  · refine zA_brT' (c := v32 = 0) rfl rfl rfl c34 ?_
    refine zA_tr (L := [none, none, none, none, none, none, none, none]) rfl rfl ?_
    refine zA_push rfl rfl zkk7 ?_
    cases H
    exact zA_ret rfl (zret_Z (by decide))
-- 234: ReleaseHouseModel.isOnAlone(II)Z
def zm234 (x0 : zq) (x1 : Int32) (x2 : Int32) (h : zH) : zRs Int32 :=
  zob 12 x0 fun p21 i22 =>
  zri (zr h p21 i22 61) x1 h fun v32 =>
  zri (zr h p21 i22 65) x1 h fun v41 =>
  zlet (v41 - (1 : Int32)) fun x43 =>
  zm234_12 (zm234_87) zN0 x0 x1 x2 v32 x43 h
theorem zmS234 {x0 : zq} {x1 : Int32} {x2 : Int32} {h : zH} {r : Int32 ⊕ Nat} {h' : zH} (H : zm234 x0 x1 x2 h = some (r, h')) : zAt 234 0 [some (zrv x0), some (zI x1), some (zI x2), none, none, none, none, none] [] h (zoI r) h' := by
  unfold zm234 at H
  refine zA_aldn rfl rfl rfl ?_
  obtain ⟨p21, i22, e23, c24, H⟩ := zob_e H
  refine zA_gf3 rfl rfl e23 c24 ?_
  refine zA_ldn rfl rfl rfl ?_
  obtain ⟨p25, i26, j27, v32, e28, c29, c30, e31, e33, H⟩ := zri_e H
  refine zA_ial rfl rfl e28 c29 c30 e31 e33 ?_
  refine zA_istn2 rfl rfl rfl (zset1 (L' := [some (zrv x0), some (zI x1), some (zI x2), some (zI v32), none, none, none, none]) rfl rfl (zpcV rfl rfl)) ?_
  refine zA_aldn rfl rfl rfl ?_
  refine zA_gf3 rfl rfl e23 c24 ?_
  refine zA_ldn rfl rfl rfl ?_
  obtain ⟨p34, i35, j36, v41, e37, c38, c39, e40, e42, H⟩ := zri_e H
  refine zA_ial rfl rfl e37 c38 c39 e40 e42 ?_
  refine zA_push rfl rfl zkk5 ?_
  refine zA_st (st' := [zI (v41 - (1 : Int32))]) rfl rfl rfl rfl ?_
  obtain ⟨x43, e44, H⟩ := zlet_e H
  refine zA_ist2 rfl rfl e44 (zset1 (L' := [some (zrv x0), some (zI x1), some (zI x2), some (zI v32), some (zI x43), none, none, none]) rfl rfl (zpcV rfl rfl)) ?_
  exact zA_tr (L := [some (zrv x0), some (zI x1), some (zI x2), some (zI v32), some (zI x43), none, none, none]) rfl rfl (zmS234_12 (zmS234_87) zN0 _ _ _ _ _ _ _ _ H)
theorem zmE234 (x0 : zq) (x1 : Int32) (x2 : Int32) : zpad (zPr.2.1 234).1 (zil [zrv x0, zI x1, zI x2]) = [some (zrv x0), some (zI x1), some (zI x2), none, none, none, none, none] := by
  simp only [zil_A, zil_I, zil_F, zil_D, zil_N]
  rfl
def zm235_17 (k4 : zq → Int32 → Int32 → Int32 → zH → zRs Int32) (x0 : zq) (x2 : Int32) (x4 : Int32) (s0 : Int32) (h : zH) : zRs Int32 :=
  zob 12 x0 fun p21 i22 =>
  zri (zr h p21 i22 62) x4 h fun v32 =>
  k4 x0 x2 s0 v32 h
theorem zmS235_17 {k4 : zq → Int32 → Int32 → Int32 → zH → zRs Int32} (hk4 : ∀ (x0 : zq) (x2 : Int32) (x3 : Int32) (x4 : Int32) (h : zH) (r : Int32 ⊕ Nat) (h' : zH), k4 x0 x2 x3 x4 h = some (r, h') → zAt 235 4 [some (zrv x0), none, some (zI x2), some (zI x3), some (zI x4)] [] h (zoI r) h') : ∀ (x0 : zq) (x2 : Int32) (x4 : Int32) (s0 : Int32) (h : zH) (r : Int32 ⊕ Nat) (h' : zH), zm235_17 k4 x0 x2 x4 s0 h = some (r, h') → zAt 235 17 [some (zrv x0), none, some (zI x2), none, some (zI x4)] [zI s0] h (zoI r) h' := by
  intro x0 x2 x4 s0 h r h' H
  unfold zm235_17 at H
  refine zA_istn2 rfl rfl rfl (zset1 (L' := [some (zrv x0), none, some (zI x2), some (zI s0), some (zI x4)]) rfl rfl (zpcV rfl rfl)) ?_
  refine zA_aldn rfl rfl rfl ?_
  obtain ⟨p21, i22, e23, c24, H⟩ := zob_e H
  refine zA_gf3 rfl rfl e23 c24 ?_
  refine zA_ld rfl rfl rfl ?_
  obtain ⟨p25, i26, j27, v32, e28, c29, c30, e31, e33, H⟩ := zri_e H
  refine zA_ial rfl rfl e28 c29 c30 e31 e33 ?_
  refine zA_ist2 rfl rfl rfl (zset1 (L' := [some (zrv x0), none, some (zI x2), some (zI s0), some (zI v32)]) rfl rfl (zpcV rfl rfl)) ?_
  refine zA_go rfl rfl ?_
  exact zA_tr (L := [some (zrv x0), none, some (zI x2), some (zI s0), some (zI v32)]) rfl rfl (hk4 _ _ _ _ _ _ _ H)
def zm235_4 : Nat → zq → Int32 → Int32 → Int32 → zH → zRs Int32
  | 0, _, _, _, _, _ => none
  | n + 1, x0, x2, x3, x4, h =>
    if x4 = (-1 : Int32) then
      zif (x3 = 0 ∨ x3 = 1) <|
      some (.inl x3, h)
    else
      if x3 = 0 then
        zm235_17 (zm235_4 n) x0 x2 x4 (0 : Int32) h
      else
        zob 12 x0 fun p24 i25 =>
        zb (zm234 x0 x4 x2 h) fun x29 h28 =>
        if x29 = 0 then
          zm235_17 (zm235_4 n) x0 x2 x4 (0 : Int32) h28
        else
          zm235_17 (zm235_4 n) x0 x2 x4 (1 : Int32) h28
theorem zmS235_4 : ∀ (n : Nat) (x0 : zq) (x2 : Int32) (x3 : Int32) (x4 : Int32) (h : zH) (r : Int32 ⊕ Nat) (h' : zH), zm235_4 n x0 x2 x3 x4 h = some (r, h') → zAt 235 4 [some (zrv x0), none, some (zI x2), some (zI x3), some (zI x4)] [] h (zoI r) h' := by
  intro n
  induction n with
  | zero => intro x0 x2 x3 x4 h r h' H; cases H
  | succ n ih =>
    intro x0 x2 x3 x4 h r h' H
    unfold zm235_4 at H
    refine zA_ld rfl rfl rfl ?_
    refine zA_push rfl rfl zkk6 ?_
    rcases zite_e H with ⟨c21, H⟩ | ⟨c21, H⟩
    · refine zA_brT (c := x4 = (-1 : Int32)) rfl rfl rfl c21 ?_
      refine zA_tr (L := [none, none, none, some (zI x3), none]) rfl rfl ?_
      refine zA_ldn rfl rfl rfl ?_
      obtain ⟨c22, H⟩ := zif_e H
      cases H
      exact zA_ret rfl (zret_Z c22)
    · refine zA_brF (c := x4 = (-1 : Int32)) rfl rfl rfl c21 ?_
      refine zA_ldn rfl rfl rfl ?_
      rcases zite_e H with ⟨c23, H⟩ | ⟨c23, H⟩
      · refine zA_brT (c := x3 = 0) rfl rfl rfl c23 ?_
        refine zA_tr (L := [some (zrv x0), none, some (zI x2), none, some (zI x4)]) rfl rfl ?_
        refine zA_push rfl rfl zkk7 ?_
        exact zA_tr (L := [some (zrv x0), none, some (zI x2), none, some (zI x4)]) rfl rfl (zmS235_17 ih _ _ _ _ _ _ _ H)
      · refine zA_brF (c := x3 = 0) rfl rfl rfl c23 ?_
        refine zA_aldn rfl rfl rfl ?_
        refine zA_ld rfl rfl rfl ?_
        refine zA_ldn rfl rfl rfl ?_
        obtain ⟨p24, i25, e26, c27, H⟩ := zob_e H
        rcases zb_e H with ⟨x29, h28, C, H⟩ | ⟨E, h28, C, H⟩
        · refine zA_callV (as := [zrv x0, zI x4, zI x2]) (st' := []) rfl rfl rfl (zrcv_Q e26 c27) rfl (zmE234 _ _ _) rfl (zmS234 C) ?_
          rcases zite_e H with ⟨c30, H⟩ | ⟨c30, H⟩
          · refine zA_brT (c := x29 = 0) rfl rfl rfl c30 ?_
            refine zA_tr (L := [some (zrv x0), none, some (zI x2), none, some (zI x4)]) rfl rfl ?_
            refine zA_push rfl rfl zkk7 ?_
            exact zA_tr (L := [some (zrv x0), none, some (zI x2), none, some (zI x4)]) rfl rfl (zmS235_17 ih _ _ _ _ _ _ _ H)
          · refine zA_brF (c := x29 = 0) rfl rfl rfl c30 ?_
            refine zA_push rfl rfl zkk5 ?_
            refine zA_go rfl rfl ?_
            exact zA_tr (L := [some (zrv x0), none, some (zI x2), none, some (zI x4)]) rfl rfl (zmS235_17 ih _ _ _ _ _ _ _ H)
        · cases H
          exact zA_callX (as := [zrv x0, zI x4, zI x2]) (st' := []) rfl rfl (zrcv_Q e26 c27) rfl (zmE234 _ _ _) rfl rfl rfl (zmS234 C)
-- 235: ReleaseHouseModel.isOnFor(II)Z
def zm235 (x0 : zq) (x1 : Int32) (x2 : Int32) (h : zH) : zRs Int32 :=
  zm235_4 zN0 x0 x2 (1 : Int32) x1 h
theorem zmS235 {x0 : zq} {x1 : Int32} {x2 : Int32} {h : zH} {r : Int32 ⊕ Nat} {h' : zH} (H : zm235 x0 x1 x2 h = some (r, h')) : zAt 235 0 [some (zrv x0), some (zI x1), some (zI x2), none, none] [] h (zoI r) h' := by
  unfold zm235 at H
  refine zA_push rfl rfl zkk5 ?_
  refine zA_istn2 rfl rfl rfl (zset1 (L' := [some (zrv x0), some (zI x1), some (zI x2), some (zI (1 : Int32)), none]) rfl rfl (zpcV rfl rfl)) ?_
  refine zA_ldn rfl rfl rfl ?_
  refine zA_ist2 rfl rfl rfl (zset1 (L' := [some (zrv x0), some (zI x1), some (zI x2), some (zI (1 : Int32)), some (zI x1)]) rfl rfl (zpcV rfl rfl)) ?_
  exact zA_tr (L := [some (zrv x0), none, some (zI x2), some (zI (1 : Int32)), some (zI x1)]) rfl rfl (zmS235_4 zN0 _ _ _ _ _ _ _ H)
theorem zmE235 (x0 : zq) (x1 : Int32) (x2 : Int32) : zpad (zPr.2.1 235).1 (zil [zrv x0, zI x1, zI x2]) = [some (zrv x0), some (zI x1), some (zI x2), none, none] := by
  simp only [zil_A, zil_I, zil_F, zil_D, zil_N]
  rfl
def zm236_12 (x0 : zq) (x1 : Int32) (x2 : Int32) (s0 : zq) (s1 : Int32) (h : zH) : zRs Int32 :=
  zob 12 s0 fun p21 i22 =>
  zlet (zsi h p21 i22 0 s1) fun h25 =>
  zob 12 x0 fun p27 i28 =>
  if (zi h25 p27 i28 0) ≤ 0 then
    zar 1 (zr h25 p27 i28 64) x1 h25 fun p32 i33 j34 =>
    zlet (zsi h25 p32 i33 j34 (zi h25 p27 i28 1)) fun h39 =>
    zb (zm235 x0 x1 x2 h39) fun x42 h41 =>
    zif (x42 = 0 ∨ x42 = 1) <|
    some (.inl x42, h41)
  else
    some (.inl (0 : Int32), h25)
theorem zmS236_12 : ∀ (x0 : zq) (x1 : Int32) (x2 : Int32) (s0 : zq) (s1 : Int32) (h : zH) (r : Int32 ⊕ Nat) (h' : zH), zm236_12 x0 x1 x2 s0 s1 h = some (r, h') → zAt 236 12 [some (zrv x0), some (zI x1), some (zI x2)] [zI s1, zrv s0] h (zoI r) h' := by
  intro x0 x1 x2 s0 s1 h r h' H
  unfold zm236_12 at H
  obtain ⟨p21, i22, e23, c24, H⟩ := zob_e H
  obtain ⟨h25, e26, H⟩ := zlet_e H
  refine zA_pf0 rfl rfl e23 c24 e26 ?_
  refine zA_aldn rfl rfl rfl ?_
  obtain ⟨p27, i28, e29, c30, H⟩ := zob_e H
  refine zA_gf0 rfl rfl (Or.inl rfl) e29 c30 ?_
  rcases zite_e H with ⟨c31, H⟩ | ⟨c31, H⟩
  · refine zA_brT (c := (zi h25 p27 i28 0) ≤ 0) rfl rfl rfl c31 ?_
    refine zA_aldn rfl rfl rfl ?_
    refine zA_gf3 rfl rfl e29 c30 ?_
    refine zA_ldn rfl rfl rfl ?_
    refine zA_aldn rfl rfl rfl ?_
    refine zA_gf0 rfl rfl (Or.inl rfl) e29 c30 ?_
    obtain ⟨p32, i33, j34, e35, c36, c37, e38, H⟩ := zar_e H
    obtain ⟨h39, e40, H⟩ := zlet_e H
    refine zA_ias rfl rfl e35 c36 c37 e38 e40 ?_
    refine zA_aldn rfl rfl rfl ?_
    refine zA_ldn rfl rfl rfl ?_
    refine zA_ldn rfl rfl rfl ?_
    rcases zb_e H with ⟨x42, h41, C, H⟩ | ⟨E, h41, C, H⟩
    · refine zA_callV (as := [zrv x0, zI x1, zI x2]) (st' := []) rfl rfl rfl (zrcv_Q e29 c30) rfl (zmE235 _ _ _) rfl (zmS235 C) ?_
      obtain ⟨c43, H⟩ := zif_e H
      cases H
      exact zA_ret rfl (zret_Z c43)
    · cases H
      exact zA_callX (as := [zrv x0, zI x1, zI x2]) (st' := []) rfl rfl (zrcv_Q e29 c30) rfl (zmE235 _ _ _) rfl rfl rfl (zmS235 C)
  · refine zA_brF (c := (zi h25 p27 i28 0) ≤ 0) rfl rfl rfl c31 ?_
    refine zA_push rfl rfl zkk7 ?_
    cases H
    exact zA_ret rfl (zret_Z (by decide))
-- 236: ReleaseHouseModel.isOn(II)Z
def zm236 (x0 : zq) (x1 : Int32) (x2 : Int32) (h : zH) : zRs Int32 :=
  zb (zm229 x1 h) fun x22 h21 =>
  if x22 = 0 then
    zm236_12 x0 x1 x2 x0 (1 : Int32) h21
  else
    zb (zm139 x2 (0 : Int32) (199 : Int32) h21) fun x25 h24 =>
    if x25 = 0 then
      zm236_12 x0 x1 x2 x0 (1 : Int32) h24
    else
      zm236_12 x0 x1 x2 x0 (0 : Int32) h24
theorem zmS236 {x0 : zq} {x1 : Int32} {x2 : Int32} {h : zH} {r : Int32 ⊕ Nat} {h' : zH} (H : zm236 x0 x1 x2 h = some (r, h')) : zAt 236 0 [some (zrv x0), some (zI x1), some (zI x2)] [] h (zoI r) h' := by
  unfold zm236 at H
  refine zA_aldn rfl rfl rfl ?_
  refine zA_ldn rfl rfl rfl ?_
  rcases zb_e H with ⟨x22, h21, C, H⟩ | ⟨E, h21, C, H⟩
  · refine zA_callV (as := [zI x1]) (st' := [zrv x0]) rfl rfl rfl rfl rfl (zmE229 _) rfl (zmS229 C) ?_
    rcases zite_e H with ⟨c23, H⟩ | ⟨c23, H⟩
    · refine zA_brT (c := x22 = 0) rfl rfl rfl c23 ?_
      refine zA_push rfl rfl zkk5 ?_
      exact zA_tr (L := [some (zrv x0), some (zI x1), some (zI x2)]) rfl rfl (zmS236_12 _ _ _ _ _ _ _ _ H)
    · refine zA_brF (c := x22 = 0) rfl rfl rfl c23 ?_
      refine zA_ldn rfl rfl rfl ?_
      refine zA_push rfl rfl zkk7 ?_
      refine zA_push rfl rfl zkk48 ?_
      rcases zb_e H with ⟨x25, h24, C, H⟩ | ⟨E, h24, C, H⟩
      · refine zA_callV (as := [zI x2, zI (0 : Int32), zI (199 : Int32)]) (st' := [zrv x0]) rfl rfl rfl rfl rfl (zmE139 _ _ _) rfl (zmS139 C) ?_
        rcases zite_e H with ⟨c26, H⟩ | ⟨c26, H⟩
        · refine zA_brT (c := x25 = 0) rfl rfl rfl c26 ?_
          refine zA_push rfl rfl zkk5 ?_
          exact zA_tr (L := [some (zrv x0), some (zI x1), some (zI x2)]) rfl rfl (zmS236_12 _ _ _ _ _ _ _ _ H)
        · refine zA_brF (c := x25 = 0) rfl rfl rfl c26 ?_
          refine zA_push rfl rfl zkk7 ?_
          refine zA_go rfl rfl ?_
          exact zA_tr (L := [some (zrv x0), some (zI x1), some (zI x2)]) rfl rfl (zmS236_12 _ _ _ _ _ _ _ _ H)
      · cases H
        exact zA_callX (as := [zI x2, zI (0 : Int32), zI (199 : Int32)]) (st' := [zrv x0]) rfl rfl rfl rfl (zmE139 _ _ _) rfl rfl rfl (zmS139 C)
  · cases H
    exact zA_callX (as := [zI x1]) (st' := [zrv x0]) rfl rfl rfl rfl (zmE229 _) rfl rfl rfl (zmS229 C)
theorem zmE236 (x0 : zq) (x1 : Int32) (x2 : Int32) : zpad (zPr.2.1 236).1 (zil [zrv x0, zI x1, zI x2]) = [some (zrv x0), some (zI x1), some (zI x2)] := by
  simp only [zil_A, zil_I, zil_F, zil_D, zil_N]
  rfl
def zm125_23 (k4 : zq → Int32 → Int32 → zH → zRs Int32) (x0 : zq) (x1 : Int32) (x2 : Int32) (h : zH) : zRs Int32 :=
  zlet (x2 + (1 : Int32)) fun x21 =>
  k4 x0 x1 x21 h
theorem zmS125_23 {k4 : zq → Int32 → Int32 → zH → zRs Int32} (hk4 : ∀ (x0 : zq) (x1 : Int32) (x2 : Int32) (h : zH) (r : Int32 ⊕ Nat) (h' : zH), k4 x0 x1 x2 h = some (r, h') → zAt 125 4 [some (zrv x0), some (zI x1), some (zI x2)] [] h (zoI r) h') : ∀ (x0 : zq) (x1 : Int32) (x2 : Int32) (h : zH) (r : Int32 ⊕ Nat) (h' : zH), zm125_23 k4 x0 x1 x2 h = some (r, h') → zAt 125 23 [some (zrv x0), some (zI x1), some (zI x2)] [] h (zoI r) h' := by
  intro x0 x1 x2 h r h' H
  unfold zm125_23 at H
  obtain ⟨x21, e22, H⟩ := zlet_e H
  refine zA_inc rfl rfl rfl (e22.trans (congrArg (_ + ·) zkk8)) (zset1 (L' := [some (zrv x0), some (zI x1), some (zI x21)]) rfl rfl (zpcV rfl rfl)) ?_
  refine zA_go rfl rfl ?_
  exact zA_tr (L := [some (zrv x0), some (zI x1), some (zI x21)]) rfl rfl (hk4 _ _ _ _ _ _ H)
def zm125_4 : Nat → zq → Int32 → Int32 → zH → zRs Int32
  | 0, _, _, _, _ => none
  | n + 1, x0, x1, x2, h =>
    if (8 : Int32) ≤ x2 then
      some (.inl x1, h)
    else
      zob 11 x0 fun p22 i23 =>
      zra (zr h p22 i23 7) x2 h fun v33 =>
      zob 2 v33 fun p35 i36 =>
      if ((zi h p22 i23 11) - (zi h p35 i36 4)) < (500 : Int32) then
        zm125_23 (zm125_4 n) x0 x1 x2 h
      else
        zlet (x1 ||| ((1 : Int32) <<< (x2 &&& 31))) fun x40 =>
        zm125_23 (zm125_4 n) x0 x40 x2 h
theorem zmS125_4 : ∀ (n : Nat) (x0 : zq) (x1 : Int32) (x2 : Int32) (h : zH) (r : Int32 ⊕ Nat) (h' : zH), zm125_4 n x0 x1 x2 h = some (r, h') → zAt 125 4 [some (zrv x0), some (zI x1), some (zI x2)] [] h (zoI r) h' := by
  intro n
  induction n with
  | zero => intro x0 x1 x2 h r h' H; cases H
  | succ n ih =>
    intro x0 x1 x2 h r h' H
    unfold zm125_4 at H
    refine zA_ldn rfl rfl rfl ?_
    refine zA_push rfl rfl zkk0 ?_
    rcases zite_e H with ⟨c21, H⟩ | ⟨c21, H⟩
    · refine zA_brT (c := (8 : Int32) ≤ x2) rfl rfl rfl c21 ?_
      refine zA_tr (L := [none, some (zI x1), none]) rfl rfl ?_
      refine zA_ldn rfl rfl rfl ?_
      cases H
      exact zA_ret rfl rfl
    · refine zA_brF (c := (8 : Int32) ≤ x2) rfl rfl rfl c21 ?_
      refine zA_aldn rfl rfl rfl ?_
      obtain ⟨p22, i23, e24, c25, H⟩ := zob_e H
      refine zA_gf0 rfl rfl (Or.inl rfl) e24 c25 ?_
      refine zA_aldn rfl rfl rfl ?_
      refine zA_gf3 rfl rfl e24 c25 ?_
      refine zA_ldn rfl rfl rfl ?_
      obtain ⟨p26, i27, j28, v33, e29, c30, c31, e32, e34, H⟩ := zra_e H
      refine zA_aal rfl rfl e29 c30 c31 e32 e34 ?_
      obtain ⟨p35, i36, e37, c38, H⟩ := zob_e H
      refine zA_gf0 rfl rfl (Or.inl rfl) e37 c38 ?_
      refine zA_st (st' := [zI ((zi h p22 i23 11) - (zi h p35 i36 4))]) rfl rfl rfl rfl ?_
      refine zA_push rfl rfl zkk59 ?_
      rcases zite_e H with ⟨c39, H⟩ | ⟨c39, H⟩
      · refine zA_brT (c := ((zi h p22 i23 11) - (zi h p35 i36 4)) < (500 : Int32)) rfl rfl rfl c39 ?_
        exact zA_tr (L := [some (zrv x0), some (zI x1), some (zI x2)]) rfl rfl (zmS125_23 ih _ _ _ _ _ _ H)
      · refine zA_brF (c := ((zi h p22 i23 11) - (zi h p35 i36 4)) < (500 : Int32)) rfl rfl rfl c39 ?_
        refine zA_ldn rfl rfl rfl ?_
        refine zA_push rfl rfl zkk5 ?_
        refine zA_ldn rfl rfl rfl ?_
        refine zA_st (st' := [zI ((1 : Int32) <<< (x2 &&& 31)), zI x1]) rfl rfl rfl rfl ?_
        refine zA_st (st' := [zI (x1 ||| ((1 : Int32) <<< (x2 &&& 31)))]) rfl rfl rfl rfl ?_
        obtain ⟨x40, e41, H⟩ := zlet_e H
        refine zA_istn2 rfl rfl e41 (zset1 (L' := [some (zrv x0), some (zI x40), some (zI x2)]) rfl rfl (zpcV rfl (zcat_rv _))) ?_
        exact zA_tr (L := [some (zrv x0), some (zI x40), some (zI x2)]) rfl rfl (zmS125_23 ih _ _ _ _ _ _ H)
-- 125: ReleaseHouse.stale()I
def zm125 (x0 : zq) (h : zH) : zRs Int32 :=
  zm125_4 zN0 x0 (0 : Int32) (0 : Int32) h
theorem zmS125 {x0 : zq} {h : zH} {r : Int32 ⊕ Nat} {h' : zH} (H : zm125 x0 h = some (r, h')) : zAt 125 0 [some (zrv x0), none, none] [] h (zoI r) h' := by
  unfold zm125 at H
  refine zA_push rfl rfl zkk7 ?_
  refine zA_istn2 rfl rfl rfl (zset1 (L' := [some (zrv x0), some (zI (0 : Int32)), none]) rfl rfl (zpcV rfl (zcat_rv _))) ?_
  refine zA_push rfl rfl zkk7 ?_
  refine zA_istn2 rfl rfl rfl (zset1 (L' := [some (zrv x0), some (zI (0 : Int32)), some (zI (0 : Int32))]) rfl rfl (zpcV rfl rfl)) ?_
  exact zA_tr (L := [some (zrv x0), some (zI (0 : Int32)), some (zI (0 : Int32))]) rfl rfl (zmS125_4 zN0 _ _ _ _ _ _ H)
theorem zmE125 (x0 : zq) : zpad (zPr.2.1 125).1 (zil [zrv x0]) = [some (zrv x0), none, none] := by
  simp only [zil_A, zil_I, zil_F, zil_D, zil_N]
  rfl
def zm237_25 (k7 : zq → Int32 → Int32 → zH → zRs Int32) (x0 : zq) (x2 : Int32) (s0 : Int32) (s1 : Int32) (h : zH) : zRs Int32 :=
  zlet (s0 ||| s1) fun x21 =>
  zlet (x2 + (1 : Int32)) fun x23 =>
  k7 x0 x21 x23 h
theorem zmS237_25 {k7 : zq → Int32 → Int32 → zH → zRs Int32} (hk7 : ∀ (x0 : zq) (x1 : Int32) (x2 : Int32) (h : zH) (r : Int32 ⊕ Nat) (h' : zH), k7 x0 x1 x2 h = some (r, h') → zAt 237 7 [some (zrv x0), some (zI x1), some (zI x2)] [] h (zoI r) h') : ∀ (x0 : zq) (x2 : Int32) (s0 : Int32) (s1 : Int32) (h : zH) (r : Int32 ⊕ Nat) (h' : zH), zm237_25 k7 x0 x2 s0 s1 h = some (r, h') → zAt 237 25 [some (zrv x0), none, some (zI x2)] [zI s1, zI s0] h (zoI r) h' := by
  intro x0 x2 s0 s1 h r h' H
  unfold zm237_25 at H
  refine zA_st (st' := [zI (s0 ||| s1)]) rfl rfl rfl rfl ?_
  obtain ⟨x21, e22, H⟩ := zlet_e H
  refine zA_istn2 rfl rfl e22 (zset1 (L' := [some (zrv x0), some (zI x21), some (zI x2)]) rfl rfl (zpcV rfl (zcat_rv _))) ?_
  obtain ⟨x23, e24, H⟩ := zlet_e H
  refine zA_inc rfl rfl rfl (e24.trans (congrArg (_ + ·) zkk8)) (zset1 (L' := [some (zrv x0), some (zI x21), some (zI x23)]) rfl rfl (zpcV rfl rfl)) ?_
  refine zA_go rfl rfl ?_
  exact zA_tr (L := [some (zrv x0), some (zI x21), some (zI x23)]) rfl rfl (hk7 _ _ _ _ _ _ H)
def zm237_7 : Nat → zq → Int32 → Int32 → zH → zRs Int32
  | 0, _, _, _, _ => none
  | n + 1, x0, x1, x2, h =>
    if (8 : Int32) ≤ x2 then
      some (.inl x1, h)
    else
      zob 12 x0 fun p22 i23 =>
      zri (zr h p22 i23 64) x2 h fun v33 =>
      if ((zi h p22 i23 1) - v33) < (500 : Int32) then
        zm237_25 (zm237_7 n) x0 x2 x1 (0 : Int32) h
      else
        zm237_25 (zm237_7 n) x0 x2 x1 ((1 : Int32) <<< (x2 &&& 31)) h
theorem zmS237_7 : ∀ (n : Nat) (x0 : zq) (x1 : Int32) (x2 : Int32) (h : zH) (r : Int32 ⊕ Nat) (h' : zH), zm237_7 n x0 x1 x2 h = some (r, h') → zAt 237 7 [some (zrv x0), some (zI x1), some (zI x2)] [] h (zoI r) h' := by
  intro n
  induction n with
  | zero => intro x0 x1 x2 h r h' H; cases H
  | succ n ih =>
    intro x0 x1 x2 h r h' H
    unfold zm237_7 at H
    refine zA_ldn rfl rfl rfl ?_
    refine zA_push rfl rfl zkk0 ?_
    rcases zite_e H with ⟨c21, H⟩ | ⟨c21, H⟩
    · refine zA_brT (c := (8 : Int32) ≤ x2) rfl rfl rfl c21 ?_
      refine zA_tr (L := [none, some (zI x1), none]) rfl rfl ?_
      refine zA_ldn rfl rfl rfl ?_
      cases H
      exact zA_ret rfl rfl
    · refine zA_brF (c := (8 : Int32) ≤ x2) rfl rfl rfl c21 ?_
      refine zA_ldn rfl rfl rfl ?_
      refine zA_aldn rfl rfl rfl ?_
      obtain ⟨p22, i23, e24, c25, H⟩ := zob_e H
      refine zA_gf0 rfl rfl (Or.inl rfl) e24 c25 ?_
      refine zA_aldn rfl rfl rfl ?_
      refine zA_gf3 rfl rfl e24 c25 ?_
      refine zA_ldn rfl rfl rfl ?_
      obtain ⟨p26, i27, j28, v33, e29, c30, c31, e32, e34, H⟩ := zri_e H
      refine zA_ial rfl rfl e29 c30 c31 e32 e34 ?_
      refine zA_st (st' := [zI ((zi h p22 i23 1) - v33), zI x1]) rfl rfl rfl rfl ?_
      refine zA_push rfl rfl zkk59 ?_
      rcases zite_e H with ⟨c35, H⟩ | ⟨c35, H⟩
      · refine zA_brT (c := ((zi h p22 i23 1) - v33) < (500 : Int32)) rfl rfl rfl c35 ?_
        refine zA_tr (L := [some (zrv x0), none, some (zI x2)]) rfl rfl ?_
        refine zA_push rfl rfl zkk7 ?_
        exact zA_tr (L := [some (zrv x0), none, some (zI x2)]) rfl rfl (zmS237_25 ih _ _ _ _ _ _ _ H)
      · refine zA_brF (c := ((zi h p22 i23 1) - v33) < (500 : Int32)) rfl rfl rfl c35 ?_
        refine zA_push rfl rfl zkk5 ?_
        refine zA_ldn rfl rfl rfl ?_
        refine zA_st (st' := [zI ((1 : Int32) <<< (x2 &&& 31)), zI x1]) rfl rfl rfl rfl ?_
        refine zA_go rfl rfl ?_
        exact zA_tr (L := [some (zrv x0), none, some (zI x2)]) rfl rfl (zmS237_25 ih _ _ _ _ _ _ _ H)
-- 237: ReleaseHouseModel.stale()I
def zm237 (x0 : zq) (h : zH) : zRs Int32 :=
  zob 12 x0 fun p21 i22 =>
  zlet (zsi h p21 i22 0 (0 : Int32)) fun h25 =>
  zm237_7 zN0 x0 (0 : Int32) (0 : Int32) h25
theorem zmS237 {x0 : zq} {h : zH} {r : Int32 ⊕ Nat} {h' : zH} (H : zm237 x0 h = some (r, h')) : zAt 237 0 [some (zrv x0), none, none] [] h (zoI r) h' := by
  unfold zm237 at H
  refine zA_aldn rfl rfl rfl ?_
  refine zA_push rfl rfl zkk7 ?_
  obtain ⟨p21, i22, e23, c24, H⟩ := zob_e H
  obtain ⟨h25, e26, H⟩ := zlet_e H
  refine zA_pf0 rfl rfl e23 c24 e26 ?_
  refine zA_push rfl rfl zkk7 ?_
  refine zA_istn2 rfl rfl rfl (zset1 (L' := [some (zrv x0), some (zI (0 : Int32)), none]) rfl rfl (zpcV rfl (zcat_rv _))) ?_
  refine zA_push rfl rfl zkk7 ?_
  refine zA_istn2 rfl rfl rfl (zset1 (L' := [some (zrv x0), some (zI (0 : Int32)), some (zI (0 : Int32))]) rfl rfl (zpcV rfl rfl)) ?_
  exact zA_tr (L := [some (zrv x0), some (zI (0 : Int32)), some (zI (0 : Int32))]) rfl rfl (zmS237_7 zN0 _ _ _ _ _ _ H)
theorem zmE237 (x0 : zq) : zpad (zPr.2.1 237).1 (zil [zrv x0]) = [some (zrv x0), none, none] := by
  simp only [zil_A, zil_I, zil_F, zil_D, zil_N]
  rfl
def zm127_30 (k2 : zq → Int32 → Int32 → Int32 → Int32 → zH → zRs Int32) (x0 : zq) (x1 : Int32) (x2 : Int32) (x3 : Int32) (x4 : Int32) (h : zH) : zRs Int32 :=
  zlet (x4 + (1 : Int32)) fun x21 =>
  k2 x0 x1 x2 x3 x21 h
theorem zmS127_30 {k2 : zq → Int32 → Int32 → Int32 → Int32 → zH → zRs Int32} (hk2 : ∀ (x0 : zq) (x1 : Int32) (x2 : Int32) (x3 : Int32) (x4 : Int32) (h : zH) (r : Int32 ⊕ Nat) (h' : zH), k2 x0 x1 x2 x3 x4 h = some (r, h') → zAt 127 2 [some (zrv x0), some (zI x1), some (zI x2), some (zI x3), some (zI x4), none] [] h (zoI r) h') : ∀ (x0 : zq) (x1 : Int32) (x2 : Int32) (x3 : Int32) (x4 : Int32) (h : zH) (r : Int32 ⊕ Nat) (h' : zH), zm127_30 k2 x0 x1 x2 x3 x4 h = some (r, h') → zAt 127 30 [some (zrv x0), some (zI x1), some (zI x2), some (zI x3), some (zI x4), none] [] h (zoI r) h' := by
  intro x0 x1 x2 x3 x4 h r h' H
  unfold zm127_30 at H
  obtain ⟨x21, e22, H⟩ := zlet_e H
  refine zA_inc rfl rfl rfl (e22.trans (congrArg (_ + ·) zkk8)) (zset1 (L' := [some (zrv x0), some (zI x1), some (zI x2), some (zI x3), some (zI x21), none]) rfl rfl (zpcV rfl rfl)) ?_
  refine zA_go rfl rfl ?_
  exact zA_tr (L := [some (zrv x0), some (zI x1), some (zI x2), some (zI x3), some (zI x21), none]) rfl rfl (hk2 _ _ _ _ _ _ _ _ H)
def zm127_2 : Nat → zq → Int32 → Int32 → Int32 → Int32 → zH → zRs Int32
  | 0, _, _, _, _, _, _ => none
  | n + 1, x0, x1, x2, x3, x4, h =>
    zob 11 x0 fun p21 i22 =>
    zlz (zr h p21 i22 5) h fun v30 =>
    if v30 ≤ x4 then
      some (.inl (0 : Int32), h)
    else
      zlg (zr h p21 i22 5) x4 h fun v39 =>
      zob 1 v39 fun p41 i42 =>
      if (zi h p41 i42 5) = 0 then
        if (zi h p41 i42 0) = x1 then
          if x3 < (zi h p41 i42 2) then
            zm127_30 (zm127_2 n) x0 x1 x2 x3 x4 h
          else
            if (zi h p41 i42 3) < x2 then
              zm127_30 (zm127_2 n) x0 x1 x2 x3 x4 h
            else
              some (.inl (1 : Int32), h)
        else
          zm127_30 (zm127_2 n) x0 x1 x2 x3 x4 h
      else
        zm127_30 (zm127_2 n) x0 x1 x2 x3 x4 h
theorem zmS127_2 : ∀ (n : Nat) (x0 : zq) (x1 : Int32) (x2 : Int32) (x3 : Int32) (x4 : Int32) (h : zH) (r : Int32 ⊕ Nat) (h' : zH), zm127_2 n x0 x1 x2 x3 x4 h = some (r, h') → zAt 127 2 [some (zrv x0), some (zI x1), some (zI x2), some (zI x3), some (zI x4), none] [] h (zoI r) h' := by
  intro n
  induction n with
  | zero => intro x0 x1 x2 x3 x4 h r h' H; cases H
  | succ n ih =>
    intro x0 x1 x2 x3 x4 h r h' H
    unfold zm127_2 at H
    refine zA_ld rfl rfl rfl ?_
    refine zA_aldn rfl rfl rfl ?_
    obtain ⟨p21, i22, e23, c24, H⟩ := zob_e H
    refine zA_gf3 rfl rfl e23 c24 ?_
    obtain ⟨p25, i26, v30, e27, c28, c29, e31, H⟩ := zlz_e H
    refine zA_l2 rfl rfl rfl e27 c28 c29 e31 ?_
    rcases zite_e H with ⟨c32, H⟩ | ⟨c32, H⟩
    · refine zA_brT (c := v30 ≤ x4) rfl rfl rfl c32 ?_
      refine zA_tr (L := [none, none, none, none, none, none]) rfl rfl ?_
      refine zA_push rfl rfl zkk7 ?_
      cases H
      exact zA_ret rfl (zret_Z (by decide))
    · refine zA_brF (c := v30 ≤ x4) rfl rfl rfl c32 ?_
      refine zA_aldn rfl rfl rfl ?_
      refine zA_gf3 rfl rfl e23 c24 ?_
      refine zA_ld rfl rfl rfl ?_
      obtain ⟨p33, i34, v39, e35, c36, c37, c38, e40, H⟩ := zlg_e H
      refine zA_l3 rfl rfl rfl e35 c36 c37 c38 e40 ?_
      obtain ⟨p41, i42, e43, c44, H⟩ := zob_e H
      refine zA_cast rfl rfl e43 c44 ?_
      refine zA_ast2 rfl rfl rfl (zset1 (L' := [some (zrv x0), some (zI x1), some (zI x2), some (zI x3), some (zI x4), some (zrv v39)]) (zcat_rv _) rfl (zpcV rfl rfl)) ?_
      refine zA_ald rfl rfl rfl ?_
      refine zA_gf0 rfl rfl (Or.inr rfl) e43 c44 ?_
      rcases zite_e H with ⟨c45, H⟩ | ⟨c45, H⟩
      · refine zA_brF' (c := (zi h p41 i42 5) = 0) rfl rfl rfl c45 ?_
        refine zA_ald rfl rfl rfl ?_
        refine zA_gf0 rfl rfl (Or.inl rfl) e43 c44 ?_
        refine zA_ldn rfl rfl rfl ?_
        rcases zite_e H with ⟨c46, H⟩ | ⟨c46, H⟩
        · refine zA_brF' (c := (zi h p41 i42 0) = x1) rfl rfl rfl c46 ?_
          refine zA_ald rfl rfl rfl ?_
          refine zA_gf0 rfl rfl (Or.inl rfl) e43 c44 ?_
          refine zA_ldn rfl rfl rfl ?_
          rcases zite_e H with ⟨c47, H⟩ | ⟨c47, H⟩
          · refine zA_brT (c := x3 < (zi h p41 i42 2)) rfl rfl rfl c47 ?_
            exact zA_tr (L := [some (zrv x0), some (zI x1), some (zI x2), some (zI x3), some (zI x4), none]) rfl rfl (zmS127_30 ih _ _ _ _ _ _ _ _ H)
          · refine zA_brF (c := x3 < (zi h p41 i42 2)) rfl rfl rfl c47 ?_
            refine zA_ldn rfl rfl rfl ?_
            refine zA_ald rfl rfl rfl ?_
            refine zA_gf0 rfl rfl (Or.inl rfl) e43 c44 ?_
            rcases zite_e H with ⟨c48, H⟩ | ⟨c48, H⟩
            · refine zA_brT (c := (zi h p41 i42 3) < x2) rfl rfl rfl c48 ?_
              exact zA_tr (L := [some (zrv x0), some (zI x1), some (zI x2), some (zI x3), some (zI x4), none]) rfl rfl (zmS127_30 ih _ _ _ _ _ _ _ _ H)
            · refine zA_brF (c := (zi h p41 i42 3) < x2) rfl rfl rfl c48 ?_
              refine zA_push rfl rfl zkk5 ?_
              cases H
              exact zA_ret rfl (zret_Z (by decide))
        · refine zA_brT' (c := (zi h p41 i42 0) = x1) rfl rfl rfl c46 ?_
          exact zA_tr (L := [some (zrv x0), some (zI x1), some (zI x2), some (zI x3), some (zI x4), none]) rfl rfl (zmS127_30 ih _ _ _ _ _ _ _ _ H)
      · refine zA_brT' (c := (zi h p41 i42 5) = 0) rfl rfl rfl c45 ?_
        exact zA_tr (L := [some (zrv x0), some (zI x1), some (zI x2), some (zI x3), some (zI x4), none]) rfl rfl (zmS127_30 ih _ _ _ _ _ _ _ _ H)
-- 127: ReleaseHouse.isSeatOfOne(III)Z
def zm127 (x0 : zq) (x1 : Int32) (x2 : Int32) (x3 : Int32) (h : zH) : zRs Int32 :=
  zm127_2 zN0 x0 x1 x2 x3 (0 : Int32) h
theorem zmS127 {x0 : zq} {x1 : Int32} {x2 : Int32} {x3 : Int32} {h : zH} {r : Int32 ⊕ Nat} {h' : zH} (H : zm127 x0 x1 x2 x3 h = some (r, h')) : zAt 127 0 [some (zrv x0), some (zI x1), some (zI x2), some (zI x3), none, none] [] h (zoI r) h' := by
  unfold zm127 at H
  refine zA_push rfl rfl zkk7 ?_
  refine zA_ist2 rfl rfl rfl (zset1 (L' := [some (zrv x0), some (zI x1), some (zI x2), some (zI x3), some (zI (0 : Int32)), none]) rfl rfl (zpcV rfl rfl)) ?_
  exact zA_tr (L := [some (zrv x0), some (zI x1), some (zI x2), some (zI x3), some (zI (0 : Int32)), none]) rfl rfl (zmS127_2 zN0 _ _ _ _ _ _ _ _ H)
theorem zmE127 (x0 : zq) (x1 : Int32) (x2 : Int32) (x3 : Int32) : zpad (zPr.2.1 127).1 (zil [zrv x0, zI x1, zI x2, zI x3]) = [some (zrv x0), some (zI x1), some (zI x2), some (zI x3), none, none] := by
  simp only [zil_A, zil_I, zil_F, zil_D, zil_N]
  rfl
-- 2: ReleaseHouse$Experiment.<init>(IIIII)V
def zm2 (x0 : zq) (x1 : Int32) (x2 : Int32) (x3 : Int32) (x4 : Int32) (x5 : Int32) (h : zH) : zRs Unit :=
  znn x0 fun p21 i22 =>
  zob 1 x0 fun p25 i26 =>
  zlet (zsi h p25 i26 0 x1) fun h29 =>
  zlet (zsi h29 p25 i26 1 x2) fun h31 =>
  zlet (zsi h31 p25 i26 2 x3) fun h33 =>
  zlet (zsi h33 p25 i26 3 x4) fun h35 =>
  zlet (zsi h35 p25 i26 4 x5) fun h37 =>
  some (.inl (), h37)
theorem zmS2 {x0 : zq} {x1 : Int32} {x2 : Int32} {x3 : Int32} {x4 : Int32} {x5 : Int32} {h : zH} {r : Unit ⊕ Nat} {h' : zH} (H : zm2 x0 x1 x2 x3 x4 x5 h = some (r, h')) : zAt 2 0 [some (zrv x0), some (zI x1), some (zI x2), some (zI x3), some (zI x4), some (zI x5)] [] h (zoU r) h' := by
  unfold zm2 at H
  refine zA_aldn rfl rfl rfl ?_
  obtain ⟨p21, i22, e23, H⟩ := znn_e H
  refine zA_l0 rfl rfl rfl e23 ?_
  refine zA_aldn rfl rfl rfl ?_
  refine zA_ldn rfl rfl rfl ?_
  obtain ⟨p25, i26, e27, c28, H⟩ := zob_e H
  obtain ⟨h29, e30, H⟩ := zlet_e H
  refine zA_pf0 rfl rfl e27 c28 e30 ?_
  refine zA_aldn rfl rfl rfl ?_
  refine zA_ldn rfl rfl rfl ?_
  obtain ⟨h31, e32, H⟩ := zlet_e H
  refine zA_pf0 rfl rfl e27 c28 e32 ?_
  refine zA_aldn rfl rfl rfl ?_
  refine zA_ldn rfl rfl rfl ?_
  obtain ⟨h33, e34, H⟩ := zlet_e H
  refine zA_pf0 rfl rfl e27 c28 e34 ?_
  refine zA_aldn rfl rfl rfl ?_
  refine zA_ld rfl rfl rfl ?_
  obtain ⟨h35, e36, H⟩ := zlet_e H
  refine zA_pf0 rfl rfl e27 c28 e36 ?_
  refine zA_aldn rfl rfl rfl ?_
  refine zA_ld rfl rfl rfl ?_
  obtain ⟨h37, e38, H⟩ := zlet_e H
  refine zA_pf0 rfl rfl e27 c28 e38 ?_
  cases H
  exact zA_ret rfl rfl
theorem zmE2 (x0 : zq) (x1 : Int32) (x2 : Int32) (x3 : Int32) (x4 : Int32) (x5 : Int32) : zpad (zPr.2.1 2).1 (zil [zrv x0, zI x1, zI x2, zI x3, zI x4, zI x5]) = [some (zrv x0), some (zI x1), some (zI x2), some (zI x3), some (zI x4), some (zI x5)] := by
  simp only [zil_A, zil_I, zil_F, zil_D, zil_N]
  rfl
-- 126: ReleaseHouse.experiment(IIIII)I
def zm126 (x0 : zq) (x1 : Int32) (x2 : Int32) (x3 : Int32) (x4 : Int32) (x5 : Int32) (h : zH) : zRs Int32 :=
  zb (zm131 x1 (0 : Int32) (2 : Int32) h) fun _ h21 =>
  zb (zm131 x2 (0 : Int32) (7 : Int32) h21) fun _ h22 =>
  zb (zm131 x3 (0 : Int32) (99 : Int32) h22) fun _ h23 =>
  zb (zm131 x4 x3 (99 : Int32) h23) fun _ h24 =>
  zb (zm131 x5 (2 : Int32) (4 : Int32) h24) fun _ h25 =>
  zob 11 x0 fun p26 i27 =>
  zlz (zr h25 p26 i27 5) h25 fun v35 =>
  if (8 : Int32) ≤ v35 then
    some (.inr 1, zro h25 1 6)
  else
    zb (zm127 x0 x1 x3 x4 h25) fun x39 h38 =>
    if x39 = 0 then
      zlet (znw h38 1 0 6) fun h41 =>
      zob 1 (some (1, zct h38 1)) fun p43 i44 =>
      zb2 (zm2 (some (1, zct h38 1)) x1 x2 x3 x4 x5 h41) fun _ h47 =>
      znn (zr h38 p26 i27 5) fun p48 i49 =>
      znn (some (1, zct h38 1)) fun p55 i56 =>
      zif ((ztg p48 == 9 && ztg p55 == 0 && (zkc p55 == zel p48 && zelB h47 p48 i49)) = true) <|
      zif (zi h47 p48 i49 1 = 1 ∧ zln h47 p48 i49 < 33) <|
      zlet (zladd h47 p48 i49 p55 i56) fun h53 =>
      zlz (zr h53 p26 i27 5) h53 fun v63 =>
      some (.inl (v63 - (1 : Int32)), h53)
    else
      some (.inr 1, zro h38 1 6)
theorem zmS126 {x0 : zq} {x1 : Int32} {x2 : Int32} {x3 : Int32} {x4 : Int32} {x5 : Int32} {h : zH} {r : Int32 ⊕ Nat} {h' : zH} (H : zm126 x0 x1 x2 x3 x4 x5 h = some (r, h')) : zAt 126 0 [some (zrv x0), some (zI x1), some (zI x2), some (zI x3), some (zI x4), some (zI x5)] [] h (zoI r) h' := by
  unfold zm126 at H
  refine zA_ldn rfl rfl rfl ?_
  refine zA_push rfl rfl zkk7 ?_
  refine zA_push rfl rfl zkk23 ?_
  rcases zb_e H with ⟨u70, h21, C, H⟩ | ⟨E, h21, C, H⟩
  · refine zA_callU (as := [zI x1, zI (0 : Int32), zI (2 : Int32)]) (st' := []) rfl rfl rfl rfl rfl (zmE131 _ _ _) rfl (zmS131 C) ?_
    refine zA_ldn rfl rfl rfl ?_
    refine zA_push rfl rfl zkk7 ?_
    refine zA_push rfl rfl zkk22 ?_
    rcases zb_e H with ⟨u69, h22, C, H⟩ | ⟨E, h22, C, H⟩
    · refine zA_callU (as := [zI x2, zI (0 : Int32), zI (7 : Int32)]) (st' := []) rfl rfl rfl rfl rfl (zmE131 _ _ _) rfl (zmS131 C) ?_
      refine zA_ldn rfl rfl rfl ?_
      refine zA_push rfl rfl zkk7 ?_
      refine zA_push rfl rfl zkk60 ?_
      rcases zb_e H with ⟨u68, h23, C, H⟩ | ⟨E, h23, C, H⟩
      · refine zA_callU (as := [zI x3, zI (0 : Int32), zI (99 : Int32)]) (st' := []) rfl rfl rfl rfl rfl (zmE131 _ _ _) rfl (zmS131 C) ?_
        refine zA_ld rfl rfl rfl ?_
        refine zA_ldn rfl rfl rfl ?_
        refine zA_push rfl rfl zkk60 ?_
        rcases zb_e H with ⟨u67, h24, C, H⟩ | ⟨E, h24, C, H⟩
        · refine zA_callU (as := [zI x4, zI x3, zI (99 : Int32)]) (st' := []) rfl rfl rfl rfl rfl (zmE131 _ _ _) rfl (zmS131 C) ?_
          refine zA_ld rfl rfl rfl ?_
          refine zA_push rfl rfl zkk23 ?_
          refine zA_push rfl rfl zkk9 ?_
          rcases zb_e H with ⟨u66, h25, C, H⟩ | ⟨E, h25, C, H⟩
          · refine zA_callU (as := [zI x5, zI (2 : Int32), zI (4 : Int32)]) (st' := []) rfl rfl rfl rfl rfl (zmE131 _ _ _) rfl (zmS131 C) ?_
            refine zA_aldn rfl rfl rfl ?_
            obtain ⟨p26, i27, e28, c29, H⟩ := zob_e H
            refine zA_gf3 rfl rfl e28 c29 ?_
            obtain ⟨p30, i31, v35, e32, c33, c34, e36, H⟩ := zlz_e H
            refine zA_l2 rfl rfl rfl e32 c33 c34 e36 ?_
            refine zA_push rfl rfl zkk0 ?_
            rcases zite_e H with ⟨c37, H⟩ | ⟨c37, H⟩
            · refine zA_brT (c := (8 : Int32) ≤ v35) rfl rfl rfl c37 ?_
              refine zA_tr (L := [none, none, none, none, none, none]) rfl rfl ?_
              cases H
              exact zA_thr rfl rfl
            · refine zA_brF (c := (8 : Int32) ≤ v35) rfl rfl rfl c37 ?_
              refine zA_aldn rfl rfl rfl ?_
              refine zA_ldn rfl rfl rfl ?_
              refine zA_ldn rfl rfl rfl ?_
              refine zA_ld rfl rfl rfl ?_
              rcases zb_e H with ⟨x39, h38, C, H⟩ | ⟨E, h38, C, H⟩
              · refine zA_callV (as := [zrv x0, zI x1, zI x3, zI x4]) (st' := []) rfl rfl rfl (zrcv_Q e28 c29) rfl (zmE127 _ _ _ _) rfl (zmS127 C) ?_
                rcases zite_e H with ⟨c40, H⟩ | ⟨c40, H⟩
                · refine zA_brT (c := x39 = 0) rfl rfl rfl c40 ?_
                  refine zA_aldn rfl rfl rfl ?_
                  refine zA_gf3 rfl rfl e28 c29 ?_
                  obtain ⟨h41, e42, H⟩ := zlet_e H
                  refine zA_new (n := 6) rfl rfl (fun _ _ _ _ => rfl) e42 ?_
                  refine zA_dup rfl rfl (zcat_rv _) ?_
                  refine zA_ldn rfl rfl rfl ?_
                  refine zA_ldn rfl rfl rfl ?_
                  refine zA_ldn rfl rfl rfl ?_
                  refine zA_ld rfl rfl rfl ?_
                  refine zA_ld rfl rfl rfl ?_
                  obtain ⟨p43, i44, e45, c46, H⟩ := zob_e H
                  obtain ⟨u65, h47, C, H⟩ := zb2_e H
                  refine zA_callU (as := [zrv (some (1, zct h38 1)), zI x1, zI x2, zI x3, zI x4, zI x5]) (st' := [zrv (some (1, zct h38 1)), zrv (zr h38 p26 i27 5)]) rfl rfl rfl (zrcv_Q e45 c46) rfl (zmE2 _ _ _ _ _ _) rfl (zmS2 C) ?_
                  obtain ⟨p48, i49, e50, H⟩ := znn_e H
                  obtain ⟨p55, i56, e57, H⟩ := znn_e H
                  obtain ⟨c51, H⟩ := zif_e H
                  obtain ⟨c52, H⟩ := zif_e H
                  obtain ⟨h53, e54, H⟩ := zlet_e H
                  refine zA_l4 rfl rfl rfl e50 e57 c51 c52 e54 ?_
                  refine zA_pop rfl rfl rfl ?_
                  refine zA_aldn rfl rfl rfl ?_
                  refine zA_gf3 rfl rfl e28 c29 ?_
                  obtain ⟨p58, i59, v63, e60, c61, c62, e64, H⟩ := zlz_e H
                  refine zA_l2 rfl rfl rfl e60 c61 c62 e64 ?_
                  refine zA_push rfl rfl zkk5 ?_
                  refine zA_st (st' := [zI (v63 - (1 : Int32))]) rfl rfl rfl rfl ?_
                  cases H
                  exact zA_ret rfl rfl
                · refine zA_brF (c := x39 = 0) rfl rfl rfl c40 ?_
                  refine zA_tr (L := [none, none, none, none, none, none]) rfl rfl ?_
                  cases H
                  exact zA_thr rfl rfl
              · cases H
                exact zA_callX (as := [zrv x0, zI x1, zI x3, zI x4]) (st' := []) rfl rfl (zrcv_Q e28 c29) rfl (zmE127 _ _ _ _) rfl rfl rfl (zmS127 C)
          · cases H
            exact zA_callX (as := [zI x5, zI (2 : Int32), zI (4 : Int32)]) (st' := []) rfl rfl rfl rfl (zmE131 _ _ _) rfl rfl rfl (zmS131 C)
        · cases H
          exact zA_callX (as := [zI x4, zI x3, zI (99 : Int32)]) (st' := []) rfl rfl rfl rfl (zmE131 _ _ _) rfl rfl rfl (zmS131 C)
      · cases H
        exact zA_callX (as := [zI x3, zI (0 : Int32), zI (99 : Int32)]) (st' := []) rfl rfl rfl rfl (zmE131 _ _ _) rfl rfl rfl (zmS131 C)
    · cases H
      exact zA_callX (as := [zI x2, zI (0 : Int32), zI (7 : Int32)]) (st' := []) rfl rfl rfl rfl (zmE131 _ _ _) rfl rfl rfl (zmS131 C)
  · cases H
    exact zA_callX (as := [zI x1, zI (0 : Int32), zI (2 : Int32)]) (st' := []) rfl rfl rfl rfl (zmE131 _ _ _) rfl rfl rfl (zmS131 C)
theorem zmE126 (x0 : zq) (x1 : Int32) (x2 : Int32) (x3 : Int32) (x4 : Int32) (x5 : Int32) : zpad (zPr.2.1 126).1 (zil [zrv x0, zI x1, zI x2, zI x3, zI x4, zI x5]) = [some (zrv x0), some (zI x1), some (zI x2), some (zI x3), some (zI x4), some (zI x5)] := by
  simp only [zil_A, zil_I, zil_F, zil_D, zil_N]
  rfl
