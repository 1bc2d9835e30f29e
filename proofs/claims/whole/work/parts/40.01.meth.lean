set_option maxRecDepth 16384
/-! The methods read back (printed by wip/whole/gen/dec.py). -/
def zm150_70 (k43 : zq → Int32 → Int32 → Int32 → Int32 → zH → zRs Int32) (x0 : zq) (x1 : Int32) (x2 : Int32) (x4 : Int32) (s0 : Int32) (h : zH) : zRs Int32 :=
  zlet (x4 + (1 : Int32)) fun x21 =>
  k43 x0 x1 x2 s0 x21 h
theorem zmS150_70 {k43 : zq → Int32 → Int32 → Int32 → Int32 → zH → zRs Int32} (hk43 : ∀ (x0 : zq) (x1 : Int32) (x2 : Int32) (x3 : Int32) (x4 : Int32) (h : zH) (r : Int32 ⊕ Nat) (h' : zH), k43 x0 x1 x2 x3 x4 h = some (r, h') → zAt 150 43 [some (zrv x0), some (zI x1), some (zI x2), some (zI x3), some (zI x4)] [] h (zoI r) h') : ∀ (x0 : zq) (x1 : Int32) (x2 : Int32) (x4 : Int32) (s0 : Int32) (h : zH) (r : Int32 ⊕ Nat) (h' : zH), zm150_70 k43 x0 x1 x2 x4 s0 h = some (r, h') → zAt 150 70 [some (zrv x0), some (zI x1), some (zI x2), none, some (zI x4)] [zI s0] h (zoI r) h' := by
  intro x0 x1 x2 x4 s0 h r h' H
  unfold zm150_70 at H
  refine zA_istn2 rfl rfl rfl (zset1 (L' := [some (zrv x0), some (zI x1), some (zI x2), some (zI s0), some (zI x4)]) rfl rfl (zpcV rfl rfl)) ?_
  obtain ⟨x21, e22, H⟩ := zlet_e H
  refine zA_inc rfl rfl rfl (e22.trans (congrArg (_ + ·) zkk8)) (zset1 (L' := [some (zrv x0), some (zI x1), some (zI x2), some (zI s0), some (zI x21)]) rfl rfl (zpcV rfl rfl)) ?_
  refine zA_go rfl rfl ?_
  exact zA_tr (L := [some (zrv x0), some (zI x1), some (zI x2), some (zI s0), some (zI x21)]) rfl rfl (hk43 _ _ _ _ _ _ _ _ H)
def zm150_43 : Nat → zq → Int32 → Int32 → Int32 → Int32 → zH → zRs Int32
  | 0, _, _, _, _, _, _ => none
  | n + 1, x0, x1, x2, x3, x4, h =>
    if (8 : Int32) ≤ x4 then
      zif (x3 = 0 ∨ x3 = 1) <|
      some (.inl x3, h)
    else
      if x3 = 0 then
        zm150_70 (zm150_43 n) x0 x1 x2 x4 (0 : Int32) h
      else
        zob 12 x0 fun p24 i25 =>
        zri (zr h p24 i25 20) (((8 : Int32) * x2) + x4) h fun v35 =>
        if v35 = 0 then
          zm150_70 (zm150_43 n) x0 x1 x2 x4 (1 : Int32) h
        else
          zri (zr h p24 i25 8) x1 h fun v45 =>
          if ((v45 >>> (x4 &&& 31)) &&& (1 : Int32)) = (1 : Int32) then
            zm150_70 (zm150_43 n) x0 x1 x2 x4 (1 : Int32) h
          else
            zm150_70 (zm150_43 n) x0 x1 x2 x4 (0 : Int32) h
theorem zmS150_43 : ∀ (n : Nat) (x0 : zq) (x1 : Int32) (x2 : Int32) (x3 : Int32) (x4 : Int32) (h : zH) (r : Int32 ⊕ Nat) (h' : zH), zm150_43 n x0 x1 x2 x3 x4 h = some (r, h') → zAt 150 43 [some (zrv x0), some (zI x1), some (zI x2), some (zI x3), some (zI x4)] [] h (zoI r) h' := by
  intro n
  induction n with
  | zero => intro x0 x1 x2 x3 x4 h r h' H; cases H
  | succ n ih =>
    intro x0 x1 x2 x3 x4 h r h' H
    unfold zm150_43 at H
    refine zA_ld rfl rfl rfl ?_
    refine zA_push rfl rfl zkk0 ?_
    rcases zite_e H with ⟨c21, H⟩ | ⟨c21, H⟩
    · refine zA_brT (c := (8 : Int32) ≤ x4) rfl rfl rfl c21 ?_
      refine zA_tr (L := [none, none, none, some (zI x3), none]) rfl rfl ?_
      refine zA_ldn rfl rfl rfl ?_
      obtain ⟨c22, H⟩ := zif_e H
      cases H
      exact zA_ret rfl (zret_Z c22)
    · refine zA_brF (c := (8 : Int32) ≤ x4) rfl rfl rfl c21 ?_
      refine zA_ldn rfl rfl rfl ?_
      rcases zite_e H with ⟨c23, H⟩ | ⟨c23, H⟩
      · refine zA_brT (c := x3 = 0) rfl rfl rfl c23 ?_
        refine zA_tr (L := [some (zrv x0), some (zI x1), some (zI x2), none, some (zI x4)]) rfl rfl ?_
        refine zA_push rfl rfl zkk7 ?_
        exact zA_tr (L := [some (zrv x0), some (zI x1), some (zI x2), none, some (zI x4)]) rfl rfl (zmS150_70 ih _ _ _ _ _ _ _ _ H)
      · refine zA_brF (c := x3 = 0) rfl rfl rfl c23 ?_
        refine zA_aldn rfl rfl rfl ?_
        obtain ⟨p24, i25, e26, c27, H⟩ := zob_e H
        refine zA_gf3 rfl rfl e26 c27 ?_
        refine zA_push rfl rfl zkk0 ?_
        refine zA_ldn rfl rfl rfl ?_
        refine zA_st (st' := [zI ((8 : Int32) * x2), zrv (zr h p24 i25 20)]) rfl rfl rfl rfl ?_
        refine zA_ld rfl rfl rfl ?_
        refine zA_st (st' := [zI (((8 : Int32) * x2) + x4), zrv (zr h p24 i25 20)]) rfl rfl rfl rfl ?_
        obtain ⟨p28, i29, j30, v35, e31, c32, c33, e34, e36, H⟩ := zri_e H
        refine zA_ial rfl rfl e31 c32 c33 e34 e36 ?_
        rcases zite_e H with ⟨c37, H⟩ | ⟨c37, H⟩
        · refine zA_brT (c := v35 = 0) rfl rfl rfl c37 ?_
          refine zA_tr (L := [some (zrv x0), some (zI x1), some (zI x2), none, some (zI x4)]) rfl rfl ?_
          refine zA_push rfl rfl zkk5 ?_
          refine zA_go rfl rfl ?_
          exact zA_tr (L := [some (zrv x0), some (zI x1), some (zI x2), none, some (zI x4)]) rfl rfl (zmS150_70 ih _ _ _ _ _ _ _ _ H)
        · refine zA_brF (c := v35 = 0) rfl rfl rfl c37 ?_
          refine zA_aldn rfl rfl rfl ?_
          refine zA_gf3 rfl rfl e26 c27 ?_
          refine zA_ldn rfl rfl rfl ?_
          obtain ⟨p38, i39, j40, v45, e41, c42, c43, e44, e46, H⟩ := zri_e H
          refine zA_ial rfl rfl e41 c42 c43 e44 e46 ?_
          refine zA_ld rfl rfl rfl ?_
          refine zA_st (st' := [zI (v45 >>> (x4 &&& 31))]) rfl rfl rfl rfl ?_
          refine zA_push rfl rfl zkk5 ?_
          refine zA_st (st' := [zI ((v45 >>> (x4 &&& 31)) &&& (1 : Int32))]) rfl rfl rfl rfl ?_
          refine zA_push rfl rfl zkk5 ?_
          rcases zite_e H with ⟨c47, H⟩ | ⟨c47, H⟩
          · refine zA_brF' (c := ((v45 >>> (x4 &&& 31)) &&& (1 : Int32)) = (1 : Int32)) rfl rfl rfl c47 ?_
            refine zA_tr (L := [some (zrv x0), some (zI x1), some (zI x2), none, some (zI x4)]) rfl rfl ?_
            refine zA_push rfl rfl zkk5 ?_
            refine zA_go rfl rfl ?_
            exact zA_tr (L := [some (zrv x0), some (zI x1), some (zI x2), none, some (zI x4)]) rfl rfl (zmS150_70 ih _ _ _ _ _ _ _ _ H)
          · refine zA_brT' (c := ((v45 >>> (x4 &&& 31)) &&& (1 : Int32)) = (1 : Int32)) rfl rfl rfl c47 ?_
            refine zA_tr (L := [some (zrv x0), some (zI x1), some (zI x2), none, some (zI x4)]) rfl rfl ?_
            refine zA_push rfl rfl zkk7 ?_
            exact zA_tr (L := [some (zrv x0), some (zI x1), some (zI x2), none, some (zI x4)]) rfl rfl (zmS150_70 ih _ _ _ _ _ _ _ _ H)
def zm150_40 (x0 : zq) (x1 : Int32) (x2 : Int32) (s0 : Int32) (h : zH) : zRs Int32 :=
  zm150_43 zN0 x0 x1 x2 s0 (0 : Int32) h
theorem zmS150_40 : ∀ (x0 : zq) (x1 : Int32) (x2 : Int32) (s0 : Int32) (h : zH) (r : Int32 ⊕ Nat) (h' : zH), zm150_40 x0 x1 x2 s0 h = some (r, h') → zAt 150 40 [some (zrv x0), some (zI x1), some (zI x2), none, none] [zI s0] h (zoI r) h' := by
  intro x0 x1 x2 s0 h r h' H
  unfold zm150_40 at H
  refine zA_istn2 rfl rfl rfl (zset1 (L' := [some (zrv x0), some (zI x1), some (zI x2), some (zI s0), none]) rfl rfl (zpcV rfl rfl)) ?_
  refine zA_push rfl rfl zkk7 ?_
  refine zA_ist2 rfl rfl rfl (zset1 (L' := [some (zrv x0), some (zI x1), some (zI x2), some (zI s0), some (zI (0 : Int32))]) rfl rfl (zpcV rfl rfl)) ?_
  exact zA_tr (L := [some (zrv x0), some (zI x1), some (zI x2), some (zI s0), some (zI (0 : Int32))]) rfl rfl (zmS150_43 zN0 _ _ _ _ _ _ _ _ H)
-- 150: ReleaseHouseModel.fitsData(I)Z
def zm150 (x0 : zq) (x1 : Int32) (h : zH) : zRs Int32 :=
  zob 12 x0 fun p21 i22 =>
  zri (zr h p21 i22 3) x1 h fun v32 =>
  zri (zr h p21 i22 21) v32 h fun v41 =>
  zri (zr h p21 i22 9) x1 h fun v50 =>
  if ((v41 >>> (v50 &&& 31)) &&& (1 : Int32)) = (1 : Int32) then
    zri (zr h p21 i22 23) v32 h fun v60 =>
    if v60 = (-1 : Int32) then
      zm150_40 x0 x1 v32 (1 : Int32) h
    else
      zri (zr h p21 i22 8) x1 h fun v70 =>
      zri (zr h p21 i22 23) v32 h fun v79 =>
      if ((v70 >>> (v79 &&& 31)) &&& (1 : Int32)) = (1 : Int32) then
        zm150_40 x0 x1 v32 (1 : Int32) h
      else
        zm150_40 x0 x1 v32 (0 : Int32) h
  else
    zm150_40 x0 x1 v32 (0 : Int32) h
theorem zmS150 {x0 : zq} {x1 : Int32} {h : zH} {r : Int32 ⊕ Nat} {h' : zH} (H : zm150 x0 x1 h = some (r, h')) : zAt 150 0 [some (zrv x0), some (zI x1), none, none, none] [] h (zoI r) h' := by
  unfold zm150 at H
  refine zA_aldn rfl rfl rfl ?_
  obtain ⟨p21, i22, e23, c24, H⟩ := zob_e H
  refine zA_gf3 rfl rfl e23 c24 ?_
  refine zA_ldn rfl rfl rfl ?_
  obtain ⟨p25, i26, j27, v32, e28, c29, c30, e31, e33, H⟩ := zri_e H
  refine zA_ial rfl rfl e28 c29 c30 e31 e33 ?_
  refine zA_istn2 rfl rfl rfl (zset1 (L' := [some (zrv x0), some (zI x1), some (zI v32), none, none]) rfl rfl (zpcV rfl rfl)) ?_
  refine zA_aldn rfl rfl rfl ?_
  refine zA_gf3 rfl rfl e23 c24 ?_
  refine zA_ldn rfl rfl rfl ?_
  obtain ⟨p34, i35, j36, v41, e37, c38, c39, e40, e42, H⟩ := zri_e H
  refine zA_ial rfl rfl e37 c38 c39 e40 e42 ?_
  refine zA_aldn rfl rfl rfl ?_
  refine zA_gf3 rfl rfl e23 c24 ?_
  refine zA_ldn rfl rfl rfl ?_
  obtain ⟨p43, i44, j45, v50, e46, c47, c48, e49, e51, H⟩ := zri_e H
  refine zA_ial rfl rfl e46 c47 c48 e49 e51 ?_
  refine zA_st (st' := [zI (v41 >>> (v50 &&& 31))]) rfl rfl rfl rfl ?_
  refine zA_push rfl rfl zkk5 ?_
  refine zA_st (st' := [zI ((v41 >>> (v50 &&& 31)) &&& (1 : Int32))]) rfl rfl rfl rfl ?_
  refine zA_push rfl rfl zkk5 ?_
  rcases zite_e H with ⟨c52, H⟩ | ⟨c52, H⟩
  · refine zA_brF' (c := ((v41 >>> (v50 &&& 31)) &&& (1 : Int32)) = (1 : Int32)) rfl rfl rfl c52 ?_
    refine zA_aldn rfl rfl rfl ?_
    refine zA_gf3 rfl rfl e23 c24 ?_
    refine zA_ldn rfl rfl rfl ?_
    obtain ⟨p53, i54, j55, v60, e56, c57, c58, e59, e61, H⟩ := zri_e H
    refine zA_ial rfl rfl e56 c57 c58 e59 e61 ?_
    refine zA_push rfl rfl zkk6 ?_
    rcases zite_e H with ⟨c62, H⟩ | ⟨c62, H⟩
    · refine zA_brT (c := v60 = (-1 : Int32)) rfl rfl rfl c62 ?_
      refine zA_push rfl rfl zkk5 ?_
      refine zA_go rfl rfl ?_
      exact zA_tr (L := [some (zrv x0), some (zI x1), some (zI v32), none, none]) rfl rfl (zmS150_40 _ _ _ _ _ _ _ H)
    · refine zA_brF (c := v60 = (-1 : Int32)) rfl rfl rfl c62 ?_
      refine zA_aldn rfl rfl rfl ?_
      refine zA_gf3 rfl rfl e23 c24 ?_
      refine zA_ldn rfl rfl rfl ?_
      obtain ⟨p63, i64, j65, v70, e66, c67, c68, e69, e71, H⟩ := zri_e H
      refine zA_ial rfl rfl e66 c67 c68 e69 e71 ?_
      refine zA_aldn rfl rfl rfl ?_
      refine zA_gf3 rfl rfl e23 c24 ?_
      refine zA_ldn rfl rfl rfl ?_
      obtain ⟨p72, i73, j74, v79, e75, c76, c77, e78, e80, H⟩ := zri_e H
      refine zA_ial rfl rfl e75 c76 c77 e78 e80 ?_
      refine zA_st (st' := [zI (v70 >>> (v79 &&& 31))]) rfl rfl rfl rfl ?_
      refine zA_push rfl rfl zkk5 ?_
      refine zA_st (st' := [zI ((v70 >>> (v79 &&& 31)) &&& (1 : Int32))]) rfl rfl rfl rfl ?_
      refine zA_push rfl rfl zkk5 ?_
      rcases zite_e H with ⟨c81, H⟩ | ⟨c81, H⟩
      · refine zA_brF' (c := ((v70 >>> (v79 &&& 31)) &&& (1 : Int32)) = (1 : Int32)) rfl rfl rfl c81 ?_
        refine zA_push rfl rfl zkk5 ?_
        refine zA_go rfl rfl ?_
        exact zA_tr (L := [some (zrv x0), some (zI x1), some (zI v32), none, none]) rfl rfl (zmS150_40 _ _ _ _ _ _ _ H)
      · refine zA_brT' (c := ((v70 >>> (v79 &&& 31)) &&& (1 : Int32)) = (1 : Int32)) rfl rfl rfl c81 ?_
        refine zA_push rfl rfl zkk7 ?_
        exact zA_tr (L := [some (zrv x0), some (zI x1), some (zI v32), none, none]) rfl rfl (zmS150_40 _ _ _ _ _ _ _ H)
  · refine zA_brT' (c := ((v41 >>> (v50 &&& 31)) &&& (1 : Int32)) = (1 : Int32)) rfl rfl rfl c52 ?_
    refine zA_push rfl rfl zkk7 ?_
    exact zA_tr (L := [some (zrv x0), some (zI x1), some (zI v32), none, none]) rfl rfl (zmS150_40 _ _ _ _ _ _ _ H)
theorem zmE150 (x0 : zq) (x1 : Int32) : zpad (zPr.2.1 150).1 (zil [zrv x0, zI x1]) = [some (zrv x0), some (zI x1), none, none, none] := by
  simp only [zil_A, zil_I, zil_F, zil_D, zil_N]
  rfl
def zm151_52 (k18 : zq → Int32 → Int32 → Int32 → zH → zRs Int32) (x0 : zq) (x1 : Int32) (x2 : Int32) (x3 : Int32) (h : zH) : zRs Int32 :=
  zlet (x3 + (1 : Int32)) fun x21 =>
  k18 x0 x1 x2 x21 h
theorem zmS151_52 {k18 : zq → Int32 → Int32 → Int32 → zH → zRs Int32} (hk18 : ∀ (x0 : zq) (x1 : Int32) (x2 : Int32) (x3 : Int32) (h : zH) (r : Int32 ⊕ Nat) (h' : zH), k18 x0 x1 x2 x3 h = some (r, h') → zAt 151 18 [some (zrv x0), some (zI x1), some (zI x2), some (zI x3)] [] h (zoI r) h') : ∀ (x0 : zq) (x1 : Int32) (x2 : Int32) (x3 : Int32) (h : zH) (r : Int32 ⊕ Nat) (h' : zH), zm151_52 k18 x0 x1 x2 x3 h = some (r, h') → zAt 151 52 [some (zrv x0), some (zI x1), some (zI x2), some (zI x3)] [] h (zoI r) h' := by
  intro x0 x1 x2 x3 h r h' H
  unfold zm151_52 at H
  obtain ⟨x21, e22, H⟩ := zlet_e H
  refine zA_inc rfl rfl rfl (e22.trans (congrArg (_ + ·) zkk8)) (zset1 (L' := [some (zrv x0), some (zI x1), some (zI x2), some (zI x21)]) rfl rfl (zpcV rfl rfl)) ?_
  refine zA_go rfl rfl ?_
  exact zA_tr (L := [some (zrv x0), some (zI x1), some (zI x2), some (zI x21)]) rfl rfl (hk18 _ _ _ _ _ _ _ H)
def zm151_51 (k18 : zq → Int32 → Int32 → Int32 → zH → zRs Int32) (x0 : zq) (x1 : Int32) (x3 : Int32) (s0 : Int32) (h : zH) : zRs Int32 :=
  zm151_52 k18 x0 x1 s0 x3 h
theorem zmS151_51 {k18 : zq → Int32 → Int32 → Int32 → zH → zRs Int32} (hk18 : ∀ (x0 : zq) (x1 : Int32) (x2 : Int32) (x3 : Int32) (h : zH) (r : Int32 ⊕ Nat) (h' : zH), k18 x0 x1 x2 x3 h = some (r, h') → zAt 151 18 [some (zrv x0), some (zI x1), some (zI x2), some (zI x3)] [] h (zoI r) h') : ∀ (x0 : zq) (x1 : Int32) (x3 : Int32) (s0 : Int32) (h : zH) (r : Int32 ⊕ Nat) (h' : zH), zm151_51 k18 x0 x1 x3 s0 h = some (r, h') → zAt 151 51 [some (zrv x0), some (zI x1), none, some (zI x3)] [zI s0] h (zoI r) h' := by
  intro x0 x1 x3 s0 h r h' H
  unfold zm151_51 at H
  refine zA_istn2 rfl rfl rfl (zset1 (L' := [some (zrv x0), some (zI x1), some (zI s0), some (zI x3)]) rfl rfl (zpcV rfl rfl)) ?_
  exact zA_tr (L := [some (zrv x0), some (zI x1), some (zI s0), some (zI x3)]) rfl rfl (zmS151_52 hk18 _ _ _ _ _ _ _ H)
def zm151_18 (k54 : zq → Int32 → Int32 → zH → zRs Int32) : Nat → zq → Int32 → Int32 → Int32 → zH → zRs Int32
  | 0, _, _, _, _, _ => none
  | n + 1, x0, x1, x2, x3, h =>
    zob 12 x0 fun p21 i22 =>
    if (zi h p21 i22 2) ≤ x3 then
      k54 x0 x1 x2 h
    else
      if x3 = x1 then
        zm151_52 (zm151_18 k54 n) x0 x1 x2 x3 h
      else
        zb (zm148 x0 x3 (-1 : Int32) h) fun x28 h27 =>
        if x28 = 0 then
          zm151_52 (zm151_18 k54 n) x0 x1 x2 x3 h27
        else
          zb (zm146 x0 x1 x3 h27) fun x31 h30 =>
          if x31 = 0 then
            if x2 = 0 then
              zri (zr h30 p21 i22 3) x3 h30 fun v41 =>
              zri (zr h30 p21 i22 7) x1 h30 fun v50 =>
              if v41 = v50 then
                zm151_51 (zm151_18 k54 n) x0 x1 x3 (1 : Int32) h30
              else
                zm151_51 (zm151_18 k54 n) x0 x1 x3 (0 : Int32) h30
            else
              zm151_51 (zm151_18 k54 n) x0 x1 x3 (1 : Int32) h30
          else
            some (.inl (6 : Int32), h30)
theorem zmS151_18 {k54 : zq → Int32 → Int32 → zH → zRs Int32} (hk54 : ∀ (x0 : zq) (x1 : Int32) (x2 : Int32) (h : zH) (r : Int32 ⊕ Nat) (h' : zH), k54 x0 x1 x2 h = some (r, h') → zAt 151 54 [some (zrv x0), some (zI x1), some (zI x2), none] [] h (zoI r) h') : ∀ (n : Nat) (x0 : zq) (x1 : Int32) (x2 : Int32) (x3 : Int32) (h : zH) (r : Int32 ⊕ Nat) (h' : zH), zm151_18 k54 n x0 x1 x2 x3 h = some (r, h') → zAt 151 18 [some (zrv x0), some (zI x1), some (zI x2), some (zI x3)] [] h (zoI r) h' := by
  intro n
  induction n with
  | zero => intro x0 x1 x2 x3 h r h' H; cases H
  | succ n ih =>
    intro x0 x1 x2 x3 h r h' H
    unfold zm151_18 at H
    refine zA_ldn rfl rfl rfl ?_
    refine zA_aldn rfl rfl rfl ?_
    obtain ⟨p21, i22, e23, c24, H⟩ := zob_e H
    refine zA_gf0 rfl rfl (Or.inl rfl) e23 c24 ?_
    rcases zite_e H with ⟨c25, H⟩ | ⟨c25, H⟩
    · refine zA_brT (c := (zi h p21 i22 2) ≤ x3) rfl rfl rfl c25 ?_
      exact zA_tr (L := [some (zrv x0), some (zI x1), some (zI x2), none]) rfl rfl (hk54 _ _ _ _ _ _ H)
    · refine zA_brF (c := (zi h p21 i22 2) ≤ x3) rfl rfl rfl c25 ?_
      refine zA_ldn rfl rfl rfl ?_
      refine zA_ldn rfl rfl rfl ?_
      rcases zite_e H with ⟨c26, H⟩ | ⟨c26, H⟩
      · refine zA_brT (c := x3 = x1) rfl rfl rfl c26 ?_
        exact zA_tr (L := [some (zrv x0), some (zI x1), some (zI x2), some (zI x3)]) rfl rfl (zmS151_52 ih _ _ _ _ _ _ _ H)
      · refine zA_brF (c := x3 = x1) rfl rfl rfl c26 ?_
        refine zA_aldn rfl rfl rfl ?_
        refine zA_ldn rfl rfl rfl ?_
        refine zA_push rfl rfl zkk6 ?_
        rcases zb_e H with ⟨x28, h27, C, H⟩ | ⟨E, h27, C, H⟩
        · refine zA_callV (as := [zrv x0, zI x3, zI (-1 : Int32)]) (st' := []) rfl rfl rfl (zrcv_Q e23 c24) rfl (zmE148 _ _ _) rfl (zmS148 C) ?_
          rcases zite_e H with ⟨c29, H⟩ | ⟨c29, H⟩
          · refine zA_brT (c := x28 = 0) rfl rfl rfl c29 ?_
            exact zA_tr (L := [some (zrv x0), some (zI x1), some (zI x2), some (zI x3)]) rfl rfl (zmS151_52 ih _ _ _ _ _ _ _ H)
          · refine zA_brF (c := x28 = 0) rfl rfl rfl c29 ?_
            refine zA_aldn rfl rfl rfl ?_
            refine zA_ldn rfl rfl rfl ?_
            refine zA_ldn rfl rfl rfl ?_
            rcases zb_e H with ⟨x31, h30, C, H⟩ | ⟨E, h30, C, H⟩
            · refine zA_callV (as := [zrv x0, zI x1, zI x3]) (st' := []) rfl rfl rfl (zrcv_Q e23 c24) rfl (zmE146 _ _ _) rfl (zmS146 C) ?_
              rcases zite_e H with ⟨c32, H⟩ | ⟨c32, H⟩
              · refine zA_brT (c := x31 = 0) rfl rfl rfl c32 ?_
                refine zA_ldn rfl rfl rfl ?_
                rcases zite_e H with ⟨c33, H⟩ | ⟨c33, H⟩
                · refine zA_brF' (c := x2 = 0) rfl rfl rfl c33 ?_
                  refine zA_aldn rfl rfl rfl ?_
                  refine zA_gf3 rfl rfl e23 c24 ?_
                  refine zA_ldn rfl rfl rfl ?_
                  obtain ⟨p34, i35, j36, v41, e37, c38, c39, e40, e42, H⟩ := zri_e H
                  refine zA_ial rfl rfl e37 c38 c39 e40 e42 ?_
                  refine zA_aldn rfl rfl rfl ?_
                  refine zA_gf3 rfl rfl e23 c24 ?_
                  refine zA_ldn rfl rfl rfl ?_
                  obtain ⟨p43, i44, j45, v50, e46, c47, c48, e49, e51, H⟩ := zri_e H
                  refine zA_ial rfl rfl e46 c47 c48 e49 e51 ?_
                  rcases zite_e H with ⟨c52, H⟩ | ⟨c52, H⟩
                  · refine zA_brF' (c := v41 = v50) rfl rfl rfl c52 ?_
                    refine zA_tr (L := [some (zrv x0), some (zI x1), none, some (zI x3)]) rfl rfl ?_
                    refine zA_push rfl rfl zkk5 ?_
                    refine zA_go rfl rfl ?_
                    exact zA_tr (L := [some (zrv x0), some (zI x1), none, some (zI x3)]) rfl rfl (zmS151_51 ih _ _ _ _ _ _ _ H)
                  · refine zA_brT' (c := v41 = v50) rfl rfl rfl c52 ?_
                    refine zA_tr (L := [some (zrv x0), some (zI x1), none, some (zI x3)]) rfl rfl ?_
                    refine zA_push rfl rfl zkk7 ?_
                    exact zA_tr (L := [some (zrv x0), some (zI x1), none, some (zI x3)]) rfl rfl (zmS151_51 ih _ _ _ _ _ _ _ H)
                · refine zA_brT' (c := x2 = 0) rfl rfl rfl c33 ?_
                  refine zA_tr (L := [some (zrv x0), some (zI x1), none, some (zI x3)]) rfl rfl ?_
                  refine zA_push rfl rfl zkk5 ?_
                  refine zA_go rfl rfl ?_
                  exact zA_tr (L := [some (zrv x0), some (zI x1), none, some (zI x3)]) rfl rfl (zmS151_51 ih _ _ _ _ _ _ _ H)
              · refine zA_brF (c := x31 = 0) rfl rfl rfl c32 ?_
                refine zA_push rfl rfl zkk14 ?_
                cases H
                exact zA_ret rfl rfl
            · cases H
              exact zA_callX (as := [zrv x0, zI x1, zI x3]) (st' := []) rfl rfl (zrcv_Q e23 c24) rfl (zmE146 _ _ _) rfl rfl rfl (zmS146 C)
        · cases H
          exact zA_callX (as := [zrv x0, zI x3, zI (-1 : Int32)]) (st' := []) rfl rfl (zrcv_Q e23 c24) rfl (zmE148 _ _ _) rfl rfl rfl (zmS148 C)
def zm151_54 (x0 : zq) (x1 : Int32) (x2 : Int32) (h : zH) : zRs Int32 :=
  if x2 = 0 then
    some (.inl (7 : Int32), h)
  else
    zob 12 x0 fun p22 i23 =>
    zb (zm150 x0 x1 h) fun x27 h26 =>
    if x27 = 0 then
      some (.inl (7 : Int32), h26)
    else
      some (.inl (0 : Int32), h26)
theorem zmS151_54 : ∀ (x0 : zq) (x1 : Int32) (x2 : Int32) (h : zH) (r : Int32 ⊕ Nat) (h' : zH), zm151_54 x0 x1 x2 h = some (r, h') → zAt 151 54 [some (zrv x0), some (zI x1), some (zI x2), none] [] h (zoI r) h' := by
  intro x0 x1 x2 h r h' H
  unfold zm151_54 at H
  refine zA_ldn rfl rfl rfl ?_
  rcases zite_e H with ⟨c21, H⟩ | ⟨c21, H⟩
  · refine zA_brT (c := x2 = 0) rfl rfl rfl c21 ?_
    refine zA_tr (L := [none, none, none, none]) rfl rfl ?_
    refine zA_push rfl rfl zkk22 ?_
    cases H
    exact zA_ret rfl rfl
  · refine zA_brF (c := x2 = 0) rfl rfl rfl c21 ?_
    refine zA_aldn rfl rfl rfl ?_
    refine zA_ldn rfl rfl rfl ?_
    obtain ⟨p22, i23, e24, c25, H⟩ := zob_e H
    rcases zb_e H with ⟨x27, h26, C, H⟩ | ⟨E, h26, C, H⟩
    · refine zA_callV (as := [zrv x0, zI x1]) (st' := []) rfl rfl rfl (zrcv_Q e24 c25) rfl (zmE150 _ _) rfl (zmS150 C) ?_
      rcases zite_e H with ⟨c28, H⟩ | ⟨c28, H⟩
      · refine zA_brT (c := x27 = 0) rfl rfl rfl c28 ?_
        refine zA_tr (L := [none, none, none, none]) rfl rfl ?_
        refine zA_push rfl rfl zkk22 ?_
        cases H
        exact zA_ret rfl rfl
      · refine zA_brF (c := x27 = 0) rfl rfl rfl c28 ?_
        refine zA_push rfl rfl zkk7 ?_
        refine zA_go rfl rfl ?_
        refine zA_tr (L := [none, none, none, none]) rfl rfl ?_
        cases H
        exact zA_ret rfl rfl
    · cases H
      exact zA_callX (as := [zrv x0, zI x1]) (st' := []) rfl rfl (zrcv_Q e24 c25) rfl (zmE150 _ _) rfl rfl rfl (zmS150 C)
def zm151_15 (x0 : zq) (x1 : Int32) (s0 : Int32) (h : zH) : zRs Int32 :=
  zm151_18 (zm151_54) zN0 x0 x1 s0 (0 : Int32) h
theorem zmS151_15 : ∀ (x0 : zq) (x1 : Int32) (s0 : Int32) (h : zH) (r : Int32 ⊕ Nat) (h' : zH), zm151_15 x0 x1 s0 h = some (r, h') → zAt 151 15 [some (zrv x0), some (zI x1), none, none] [zI s0] h (zoI r) h' := by
  intro x0 x1 s0 h r h' H
  unfold zm151_15 at H
  refine zA_istn2 rfl rfl rfl (zset1 (L' := [some (zrv x0), some (zI x1), some (zI s0), none]) rfl rfl (zpcV rfl rfl)) ?_
  refine zA_push rfl rfl zkk7 ?_
  refine zA_istn2 rfl rfl rfl (zset1 (L' := [some (zrv x0), some (zI x1), some (zI s0), some (zI (0 : Int32))]) rfl rfl (zpcV rfl rfl)) ?_
  exact zA_tr (L := [some (zrv x0), some (zI x1), some (zI s0), some (zI (0 : Int32))]) rfl rfl (zmS151_18 (zmS151_54) zN0 _ _ _ _ _ _ _ H)
-- 151: ReleaseHouseModel.mayOf(I)I
def zm151 (x0 : zq) (x1 : Int32) (h : zH) : zRs Int32 :=
  zob 12 x0 fun p21 i22 =>
  zb (zm148 x0 x1 (-1 : Int32) h) fun x26 h25 =>
  if x26 = 0 then
    zri (zr h25 p21 i22 6) x1 h25 fun v35 =>
    if v35 = 0 then
      zm151_15 x0 x1 (1 : Int32) h25
    else
      zm151_15 x0 x1 (0 : Int32) h25
  else
    some (.inl (0 : Int32), h25)
theorem zmS151 {x0 : zq} {x1 : Int32} {h : zH} {r : Int32 ⊕ Nat} {h' : zH} (H : zm151 x0 x1 h = some (r, h')) : zAt 151 0 [some (zrv x0), some (zI x1), none, none] [] h (zoI r) h' := by
  unfold zm151 at H
  refine zA_aldn rfl rfl rfl ?_
  refine zA_ldn rfl rfl rfl ?_
  refine zA_push rfl rfl zkk6 ?_
  obtain ⟨p21, i22, e23, c24, H⟩ := zob_e H
  rcases zb_e H with ⟨x26, h25, C, H⟩ | ⟨E, h25, C, H⟩
  · refine zA_callV (as := [zrv x0, zI x1, zI (-1 : Int32)]) (st' := []) rfl rfl rfl (zrcv_Q e23 c24) rfl (zmE148 _ _ _) rfl (zmS148 C) ?_
    rcases zite_e H with ⟨c27, H⟩ | ⟨c27, H⟩
    · refine zA_brT (c := x26 = 0) rfl rfl rfl c27 ?_
      refine zA_aldn rfl rfl rfl ?_
      refine zA_gf3 rfl rfl e23 c24 ?_
      refine zA_ldn rfl rfl rfl ?_
      obtain ⟨p28, i29, j30, v35, e31, c32, c33, e34, e36, H⟩ := zri_e H
      refine zA_ial rfl rfl e31 c32 c33 e34 e36 ?_
      rcases zite_e H with ⟨c37, H⟩ | ⟨c37, H⟩
      · refine zA_brF' (c := v35 = 0) rfl rfl rfl c37 ?_
        refine zA_push rfl rfl zkk5 ?_
        refine zA_go rfl rfl ?_
        exact zA_tr (L := [some (zrv x0), some (zI x1), none, none]) rfl rfl (zmS151_15 _ _ _ _ _ _ H)
      · refine zA_brT' (c := v35 = 0) rfl rfl rfl c37 ?_
        refine zA_push rfl rfl zkk7 ?_
        exact zA_tr (L := [some (zrv x0), some (zI x1), none, none]) rfl rfl (zmS151_15 _ _ _ _ _ _ H)
    · refine zA_brF (c := x26 = 0) rfl rfl rfl c27 ?_
      refine zA_push rfl rfl zkk7 ?_
      cases H
      exact zA_ret rfl rfl
  · cases H
    exact zA_callX (as := [zrv x0, zI x1, zI (-1 : Int32)]) (st' := []) rfl rfl (zrcv_Q e23 c24) rfl (zmE148 _ _ _) rfl rfl rfl (zmS148 C)
theorem zmE151 (x0 : zq) (x1 : Int32) : zpad (zPr.2.1 151).1 (zil [zrv x0, zI x1]) = [some (zrv x0), some (zI x1), none, none] := by
  simp only [zil_A, zil_I, zil_F, zil_D, zil_N]
  rfl
def zm152_8 (x0 : zq) (x1 : Int32) (s0 : zq) (s1 : Int32) (h : zH) : zRs Int32 :=
  zob 12 s0 fun p21 i22 =>
  zlet (zsi h p21 i22 0 s1) fun h25 =>
  zob 12 x0 fun p27 i28 =>
  if (zi h25 p27 i28 0) ≤ 0 then
    zb (zm151 x0 x1 h25) fun x33 h32 =>
    some (.inl x33, h32)
  else
    some (.inl (0 : Int32), h25)
theorem zmS152_8 : ∀ (x0 : zq) (x1 : Int32) (s0 : zq) (s1 : Int32) (h : zH) (r : Int32 ⊕ Nat) (h' : zH), zm152_8 x0 x1 s0 s1 h = some (r, h') → zAt 152 8 [some (zrv x0), some (zI x1)] [zI s1, zrv s0] h (zoI r) h' := by
  intro x0 x1 s0 s1 h r h' H
  unfold zm152_8 at H
  obtain ⟨p21, i22, e23, c24, H⟩ := zob_e H
  obtain ⟨h25, e26, H⟩ := zlet_e H
  refine zA_pf0 rfl rfl e23 c24 e26 ?_
  refine zA_aldn rfl rfl rfl ?_
  obtain ⟨p27, i28, e29, c30, H⟩ := zob_e H
  refine zA_gf0 rfl rfl (Or.inl rfl) e29 c30 ?_
  rcases zite_e H with ⟨c31, H⟩ | ⟨c31, H⟩
  · refine zA_brT (c := (zi h25 p27 i28 0) ≤ 0) rfl rfl rfl c31 ?_
    refine zA_aldn rfl rfl rfl ?_
    refine zA_ldn rfl rfl rfl ?_
    rcases zb_e H with ⟨x33, h32, C, H⟩ | ⟨E, h32, C, H⟩
    · refine zA_callV (as := [zrv x0, zI x1]) (st' := []) rfl rfl rfl (zrcv_Q e29 c30) rfl (zmE151 _ _) rfl (zmS151 C) ?_
      refine zA_tr (L := [none, none]) rfl rfl ?_
      cases H
      exact zA_ret rfl rfl
    · cases H
      exact zA_callX (as := [zrv x0, zI x1]) (st' := []) rfl rfl (zrcv_Q e29 c30) rfl (zmE151 _ _) rfl rfl rfl (zmS151 C)
  · refine zA_brF (c := (zi h25 p27 i28 0) ≤ 0) rfl rfl rfl c31 ?_
    refine zA_push rfl rfl zkk7 ?_
    refine zA_go rfl rfl ?_
    refine zA_tr (L := [none, none]) rfl rfl ?_
    cases H
    exact zA_ret rfl rfl
-- 152: ReleaseHouseModel.mayGo(I)I
def zm152 (x0 : zq) (x1 : Int32) (h : zH) : zRs Int32 :=
  zob 12 x0 fun p21 i22 =>
  zb (zm142 x0 x1 h) fun x26 h25 =>
  if x26 = 0 then
    zm152_8 x0 x1 x0 (1 : Int32) h25
  else
    zm152_8 x0 x1 x0 (0 : Int32) h25
theorem zmS152 {x0 : zq} {x1 : Int32} {h : zH} {r : Int32 ⊕ Nat} {h' : zH} (H : zm152 x0 x1 h = some (r, h')) : zAt 152 0 [some (zrv x0), some (zI x1)] [] h (zoI r) h' := by
  unfold zm152 at H
  refine zA_aldn rfl rfl rfl ?_
  refine zA_aldn rfl rfl rfl ?_
  refine zA_ldn rfl rfl rfl ?_
  obtain ⟨p21, i22, e23, c24, H⟩ := zob_e H
  rcases zb_e H with ⟨x26, h25, C, H⟩ | ⟨E, h25, C, H⟩
  · refine zA_callV (as := [zrv x0, zI x1]) (st' := [zrv x0]) rfl rfl rfl (zrcv_Q e23 c24) rfl (zmE142 _ _) rfl (zmS142 C) ?_
    rcases zite_e H with ⟨c27, H⟩ | ⟨c27, H⟩
    · refine zA_brT (c := x26 = 0) rfl rfl rfl c27 ?_
      refine zA_push rfl rfl zkk5 ?_
      exact zA_tr (L := [some (zrv x0), some (zI x1)]) rfl rfl (zmS152_8 _ _ _ _ _ _ _ H)
    · refine zA_brF (c := x26 = 0) rfl rfl rfl c27 ?_
      refine zA_push rfl rfl zkk7 ?_
      refine zA_go rfl rfl ?_
      exact zA_tr (L := [some (zrv x0), some (zI x1)]) rfl rfl (zmS152_8 _ _ _ _ _ _ _ H)
  · cases H
    exact zA_callX (as := [zrv x0, zI x1]) (st' := [zrv x0]) rfl rfl (zrcv_Q e23 c24) rfl (zmE142 _ _) rfl rfl rfl (zmS142 C)
theorem zmE152 (x0 : zq) (x1 : Int32) : zpad (zPr.2.1 152).1 (zil [zrv x0, zI x1]) = [some (zrv x0), some (zI x1)] := by
  simp only [zil_A, zil_I, zil_F, zil_D, zil_N]
  rfl
def zm48_41 (k13 : zq → Int32 → Int32 → Int32 → zH → zRs Int32) (x0 : zq) (x1 : Int32) (x2 : Int32) (x3 : Int32) (h : zH) : zRs Int32 :=
  zlet (x3 + (1 : Int32)) fun x21 =>
  k13 x0 x1 x2 x21 h
theorem zmS48_41 {k13 : zq → Int32 → Int32 → Int32 → zH → zRs Int32} (hk13 : ∀ (x0 : zq) (x1 : Int32) (x2 : Int32) (x3 : Int32) (h : zH) (r : Int32 ⊕ Nat) (h' : zH), k13 x0 x1 x2 x3 h = some (r, h') → zAt 48 13 [some (zrv x0), some (zI x1), some (zI x2), some (zI x3), none, none] [] h (zoI r) h') : ∀ (x0 : zq) (x1 : Int32) (x2 : Int32) (x3 : Int32) (h : zH) (r : Int32 ⊕ Nat) (h' : zH), zm48_41 k13 x0 x1 x2 x3 h = some (r, h') → zAt 48 41 [some (zrv x0), some (zI x1), some (zI x2), some (zI x3), none, none] [] h (zoI r) h' := by
  intro x0 x1 x2 x3 h r h' H
  unfold zm48_41 at H
  obtain ⟨x21, e22, H⟩ := zlet_e H
  refine zA_inc rfl rfl rfl (e22.trans (congrArg (_ + ·) zkk8)) (zset1 (L' := [some (zrv x0), some (zI x1), some (zI x2), some (zI x21), none, none]) rfl rfl (zpcV rfl rfl)) ?_
  refine zA_go rfl rfl ?_
  exact zA_tr (L := [some (zrv x0), some (zI x1), some (zI x2), some (zI x21), none, none]) rfl rfl (hk13 _ _ _ _ _ _ _ H)
def zm48_13 (k43 : zq → Int32 → Int32 → zH → zRs Int32) : Nat → zq → Int32 → Int32 → Int32 → zH → zRs Int32
  | 0, _, _, _, _, _ => none
  | n + 1, x0, x1, x2, x3, h =>
    zob 11 x0 fun p21 i22 =>
    zlz (zr h p21 i22 0) h fun v30 =>
    if v30 ≤ x3 then
      k43 x0 x1 x2 h
    else
      zlg (zr h p21 i22 0) x2 h fun v39 =>
      zob 0 v39 fun p41 i42 =>
      zlg (zr h p21 i22 0) x3 h fun v51 =>
      zob 0 v51 fun p53 i54 =>
      if (zi h p41 i42 10) ≤ 0 then
        zm48_41 (zm48_13 k43 n) x0 x1 x2 x3 h
      else
        if (zi h p53 i54 10) ≤ 0 then
          zm48_41 (zm48_13 k43 n) x0 x1 x2 x3 h
        else
          zb (zm1 v39 v51 h) fun x60 h59 =>
          if x60 = 0 then
            zm48_41 (zm48_13 k43 n) x0 x1 x2 x3 h59
          else
            zlet (x1 + (1 : Int32)) fun x62 =>
            zm48_41 (zm48_13 k43 n) x0 x62 x2 x3 h59
theorem zmS48_13 {k43 : zq → Int32 → Int32 → zH → zRs Int32} (hk43 : ∀ (x0 : zq) (x1 : Int32) (x2 : Int32) (h : zH) (r : Int32 ⊕ Nat) (h' : zH), k43 x0 x1 x2 h = some (r, h') → zAt 48 43 [some (zrv x0), some (zI x1), some (zI x2), none, none, none] [] h (zoI r) h') : ∀ (n : Nat) (x0 : zq) (x1 : Int32) (x2 : Int32) (x3 : Int32) (h : zH) (r : Int32 ⊕ Nat) (h' : zH), zm48_13 k43 n x0 x1 x2 x3 h = some (r, h') → zAt 48 13 [some (zrv x0), some (zI x1), some (zI x2), some (zI x3), none, none] [] h (zoI r) h' := by
  intro n
  induction n with
  | zero => intro x0 x1 x2 x3 h r h' H; cases H
  | succ n ih =>
    intro x0 x1 x2 x3 h r h' H
    unfold zm48_13 at H
    refine zA_ldn rfl rfl rfl ?_
    refine zA_aldn rfl rfl rfl ?_
    obtain ⟨p21, i22, e23, c24, H⟩ := zob_e H
    refine zA_gf3 rfl rfl e23 c24 ?_
    obtain ⟨p25, i26, v30, e27, c28, c29, e31, H⟩ := zlz_e H
    refine zA_l2 rfl rfl rfl e27 c28 c29 e31 ?_
    rcases zite_e H with ⟨c32, H⟩ | ⟨c32, H⟩
    · refine zA_brT (c := v30 ≤ x3) rfl rfl rfl c32 ?_
      exact zA_tr (L := [some (zrv x0), some (zI x1), some (zI x2), none, none, none]) rfl rfl (hk43 _ _ _ _ _ _ H)
    · refine zA_brF (c := v30 ≤ x3) rfl rfl rfl c32 ?_
      refine zA_aldn rfl rfl rfl ?_
      refine zA_gf3 rfl rfl e23 c24 ?_
      refine zA_ldn rfl rfl rfl ?_
      obtain ⟨p33, i34, v39, e35, c36, c37, c38, e40, H⟩ := zlg_e H
      refine zA_l3 rfl rfl rfl e35 c36 c37 c38 e40 ?_
      obtain ⟨p41, i42, e43, c44, H⟩ := zob_e H
      refine zA_cast rfl rfl e43 c44 ?_
      refine zA_ast2 rfl rfl rfl (zset1 (L' := [some (zrv x0), some (zI x1), some (zI x2), some (zI x3), some (zrv v39), none]) (zcat_rv _) rfl (zpcV rfl rfl)) ?_
      refine zA_aldn rfl rfl rfl ?_
      refine zA_gf3 rfl rfl e23 c24 ?_
      refine zA_ldn rfl rfl rfl ?_
      obtain ⟨p45, i46, v51, e47, c48, c49, c50, e52, H⟩ := zlg_e H
      refine zA_l3 rfl rfl rfl e47 c48 c49 c50 e52 ?_
      obtain ⟨p53, i54, e55, c56, H⟩ := zob_e H
      refine zA_cast rfl rfl e55 c56 ?_
      refine zA_ast2 rfl rfl rfl (zset1 (L' := [some (zrv x0), some (zI x1), some (zI x2), some (zI x3), some (zrv v39), some (zrv v51)]) (zcat_rv _) rfl (zpcV rfl (zcat_rv _))) ?_
      refine zA_ald rfl rfl rfl ?_
      refine zA_gf0 rfl rfl (Or.inl rfl) e43 c44 ?_
      rcases zite_e H with ⟨c57, H⟩ | ⟨c57, H⟩
      · refine zA_brT (c := (zi h p41 i42 10) ≤ 0) rfl rfl rfl c57 ?_
        exact zA_tr (L := [some (zrv x0), some (zI x1), some (zI x2), some (zI x3), none, none]) rfl rfl (zmS48_41 ih _ _ _ _ _ _ _ H)
      · refine zA_brF (c := (zi h p41 i42 10) ≤ 0) rfl rfl rfl c57 ?_
        refine zA_ald rfl rfl rfl ?_
        refine zA_gf0 rfl rfl (Or.inl rfl) e55 c56 ?_
        rcases zite_e H with ⟨c58, H⟩ | ⟨c58, H⟩
        · refine zA_brT (c := (zi h p53 i54 10) ≤ 0) rfl rfl rfl c58 ?_
          exact zA_tr (L := [some (zrv x0), some (zI x1), some (zI x2), some (zI x3), none, none]) rfl rfl (zmS48_41 ih _ _ _ _ _ _ _ H)
        · refine zA_brF (c := (zi h p53 i54 10) ≤ 0) rfl rfl rfl c58 ?_
          refine zA_ald rfl rfl rfl ?_
          refine zA_ald rfl rfl rfl ?_
          rcases zb_e H with ⟨x60, h59, C, H⟩ | ⟨E, h59, C, H⟩
          · refine zA_callV (as := [zrv v39, zrv v51]) (st' := []) rfl rfl rfl (zrcv_Q e43 c44) rfl (zmE1 _ _) rfl (zmS1 C) ?_
            rcases zite_e H with ⟨c61, H⟩ | ⟨c61, H⟩
            · refine zA_brT (c := x60 = 0) rfl rfl rfl c61 ?_
              exact zA_tr (L := [some (zrv x0), some (zI x1), some (zI x2), some (zI x3), none, none]) rfl rfl (zmS48_41 ih _ _ _ _ _ _ _ H)
            · refine zA_brF (c := x60 = 0) rfl rfl rfl c61 ?_
              obtain ⟨x62, e63, H⟩ := zlet_e H
              refine zA_inc rfl rfl rfl (e63.trans (congrArg (_ + ·) zkk8)) (zset1 (L' := [some (zrv x0), some (zI x62), some (zI x2), some (zI x3), some (zrv v39), some (zrv v51)]) rfl rfl (zpcV rfl (zcat_rv _))) ?_
              exact zA_tr (L := [some (zrv x0), some (zI x62), some (zI x2), some (zI x3), none, none]) rfl rfl (zmS48_41 ih _ _ _ _ _ _ _ H)
          · cases H
            exact zA_callX (as := [zrv v39, zrv v51]) (st' := []) rfl rfl (zrcv_Q e43 c44) rfl (zmE1 _ _) rfl rfl rfl (zmS1 C)
def zm48_43 (k4 : zq → Int32 → Int32 → zH → zRs Int32) (x0 : zq) (x1 : Int32) (x2 : Int32) (h : zH) : zRs Int32 :=
  zlet (x2 + (1 : Int32)) fun x21 =>
  k4 x0 x1 x21 h
theorem zmS48_43 {k4 : zq → Int32 → Int32 → zH → zRs Int32} (hk4 : ∀ (x0 : zq) (x1 : Int32) (x2 : Int32) (h : zH) (r : Int32 ⊕ Nat) (h' : zH), k4 x0 x1 x2 h = some (r, h') → zAt 48 4 [some (zrv x0), some (zI x1), some (zI x2), none, none, none] [] h (zoI r) h') : ∀ (x0 : zq) (x1 : Int32) (x2 : Int32) (h : zH) (r : Int32 ⊕ Nat) (h' : zH), zm48_43 k4 x0 x1 x2 h = some (r, h') → zAt 48 43 [some (zrv x0), some (zI x1), some (zI x2), none, none, none] [] h (zoI r) h' := by
  intro x0 x1 x2 h r h' H
  unfold zm48_43 at H
  obtain ⟨x21, e22, H⟩ := zlet_e H
  refine zA_inc rfl rfl rfl (e22.trans (congrArg (_ + ·) zkk8)) (zset1 (L' := [some (zrv x0), some (zI x1), some (zI x21), none, none, none]) rfl rfl (zpcV rfl rfl)) ?_
  refine zA_go rfl rfl ?_
  exact zA_tr (L := [some (zrv x0), some (zI x1), some (zI x21), none, none, none]) rfl rfl (hk4 _ _ _ _ _ _ H)
def zm48_4 : Nat → zq → Int32 → Int32 → zH → zRs Int32
  | 0, _, _, _, _ => none
  | n + 1, x0, x1, x2, h =>
    zob 11 x0 fun p21 i22 =>
    zlz (zr h p21 i22 0) h fun v30 =>
    if v30 ≤ x2 then
      some (.inl x1, h)
    else
      zlet (x2 + (1 : Int32)) fun x33 =>
      zm48_13 (zm48_43 (zm48_4 n)) zN0 x0 x1 x2 x33 h
theorem zmS48_4 : ∀ (n : Nat) (x0 : zq) (x1 : Int32) (x2 : Int32) (h : zH) (r : Int32 ⊕ Nat) (h' : zH), zm48_4 n x0 x1 x2 h = some (r, h') → zAt 48 4 [some (zrv x0), some (zI x1), some (zI x2), none, none, none] [] h (zoI r) h' := by
  intro n
  induction n with
  | zero => intro x0 x1 x2 h r h' H; cases H
  | succ n ih =>
    intro x0 x1 x2 h r h' H
    unfold zm48_4 at H
    refine zA_ldn rfl rfl rfl ?_
    refine zA_aldn rfl rfl rfl ?_
    obtain ⟨p21, i22, e23, c24, H⟩ := zob_e H
    refine zA_gf3 rfl rfl e23 c24 ?_
    obtain ⟨p25, i26, v30, e27, c28, c29, e31, H⟩ := zlz_e H
    refine zA_l2 rfl rfl rfl e27 c28 c29 e31 ?_
    rcases zite_e H with ⟨c32, H⟩ | ⟨c32, H⟩
    · refine zA_brT (c := v30 ≤ x2) rfl rfl rfl c32 ?_
      refine zA_tr (L := [none, some (zI x1), none, none, none, none]) rfl rfl ?_
      refine zA_ldn rfl rfl rfl ?_
      cases H
      exact zA_ret rfl rfl
    · refine zA_brF (c := v30 ≤ x2) rfl rfl rfl c32 ?_
      refine zA_ldn rfl rfl rfl ?_
      refine zA_push rfl rfl zkk5 ?_
      refine zA_st (st' := [zI (x2 + (1 : Int32))]) rfl rfl rfl rfl ?_
      obtain ⟨x33, e34, H⟩ := zlet_e H
      refine zA_istn2 rfl rfl e34 (zset1 (L' := [some (zrv x0), some (zI x1), some (zI x2), some (zI x33), none, none]) rfl rfl (zpcV rfl rfl)) ?_
      exact zA_tr (L := [some (zrv x0), some (zI x1), some (zI x2), some (zI x33), none, none]) rfl rfl (zmS48_13 (zmS48_43 ih) zN0 _ _ _ _ _ _ _ H)
-- 48: ReleaseHouse.forbidden()I
def zm48 (x0 : zq) (h : zH) : zRs Int32 :=
  zm48_4 zN0 x0 (0 : Int32) (0 : Int32) h
theorem zmS48 {x0 : zq} {h : zH} {r : Int32 ⊕ Nat} {h' : zH} (H : zm48 x0 h = some (r, h')) : zAt 48 0 [some (zrv x0), none, none, none, none, none] [] h (zoI r) h' := by
  unfold zm48 at H
  refine zA_push rfl rfl zkk7 ?_
  refine zA_istn2 rfl rfl rfl (zset1 (L' := [some (zrv x0), some (zI (0 : Int32)), none, none, none, none]) rfl rfl (zpcV rfl (zcat_rv _))) ?_
  refine zA_push rfl rfl zkk7 ?_
  refine zA_istn2 rfl rfl rfl (zset1 (L' := [some (zrv x0), some (zI (0 : Int32)), some (zI (0 : Int32)), none, none, none]) rfl rfl (zpcV rfl rfl)) ?_
  exact zA_tr (L := [some (zrv x0), some (zI (0 : Int32)), some (zI (0 : Int32)), none, none, none]) rfl rfl (zmS48_4 zN0 _ _ _ _ _ _ H)
theorem zmE48 (x0 : zq) : zpad (zPr.2.1 48).1 (zil [zrv x0]) = [some (zrv x0), none, none, none, none, none] := by
  simp only [zil_A, zil_I, zil_F, zil_D, zil_N]
  rfl
def zm153_35 (k13 : zq → Int32 → Int32 → Int32 → zH → zRs Int32) (x0 : zq) (x2 : Int32) (x3 : Int32) (s0 : Int32) (s1 : Int32) (h : zH) : zRs Int32 :=
  zlet (s0 + s1) fun x21 =>
  zlet (x3 + (1 : Int32)) fun x23 =>
  k13 x0 x21 x2 x23 h
theorem zmS153_35 {k13 : zq → Int32 → Int32 → Int32 → zH → zRs Int32} (hk13 : ∀ (x0 : zq) (x1 : Int32) (x2 : Int32) (x3 : Int32) (h : zH) (r : Int32 ⊕ Nat) (h' : zH), k13 x0 x1 x2 x3 h = some (r, h') → zAt 153 13 [some (zrv x0), some (zI x1), some (zI x2), some (zI x3)] [] h (zoI r) h') : ∀ (x0 : zq) (x2 : Int32) (x3 : Int32) (s0 : Int32) (s1 : Int32) (h : zH) (r : Int32 ⊕ Nat) (h' : zH), zm153_35 k13 x0 x2 x3 s0 s1 h = some (r, h') → zAt 153 35 [some (zrv x0), none, some (zI x2), some (zI x3)] [zI s1, zI s0] h (zoI r) h' := by
  intro x0 x2 x3 s0 s1 h r h' H
  unfold zm153_35 at H
  refine zA_st (st' := [zI (s0 + s1)]) rfl rfl rfl rfl ?_
  obtain ⟨x21, e22, H⟩ := zlet_e H
  refine zA_istn2 rfl rfl e22 (zset1 (L' := [some (zrv x0), some (zI x21), some (zI x2), some (zI x3)]) rfl rfl (zpcV rfl (zcat_rv _))) ?_
  obtain ⟨x23, e24, H⟩ := zlet_e H
  refine zA_inc rfl rfl rfl (e24.trans (congrArg (_ + ·) zkk8)) (zset1 (L' := [some (zrv x0), some (zI x21), some (zI x2), some (zI x23)]) rfl rfl (zpcV rfl rfl)) ?_
  refine zA_go rfl rfl ?_
  exact zA_tr (L := [some (zrv x0), some (zI x21), some (zI x2), some (zI x23)]) rfl rfl (hk13 _ _ _ _ _ _ _ H)
def zm153_13 (k39 : zq → Int32 → Int32 → zH → zRs Int32) : Nat → zq → Int32 → Int32 → Int32 → zH → zRs Int32
  | 0, _, _, _, _, _ => none
  | n + 1, x0, x1, x2, x3, h =>
    if x2 ≤ x3 then
      k39 x0 x1 x2 h
    else
      zob 12 x0 fun p22 i23 =>
      zb (zm148 x0 x2 (-1 : Int32) h) fun x27 h26 =>
      if x27 = 0 then
        zm153_35 (zm153_13 k39 n) x0 x2 x3 x1 (0 : Int32) h26
      else
        zb (zm148 x0 x3 (-1 : Int32) h26) fun x30 h29 =>
        if x30 = 0 then
          zm153_35 (zm153_13 k39 n) x0 x2 x3 x1 (0 : Int32) h29
        else
          zb (zm146 x0 x2 x3 h29) fun x33 h32 =>
          if x33 = 0 then
            zm153_35 (zm153_13 k39 n) x0 x2 x3 x1 (0 : Int32) h32
          else
            zm153_35 (zm153_13 k39 n) x0 x2 x3 x1 (1 : Int32) h32
theorem zmS153_13 {k39 : zq → Int32 → Int32 → zH → zRs Int32} (hk39 : ∀ (x0 : zq) (x1 : Int32) (x2 : Int32) (h : zH) (r : Int32 ⊕ Nat) (h' : zH), k39 x0 x1 x2 h = some (r, h') → zAt 153 39 [some (zrv x0), some (zI x1), some (zI x2), none] [] h (zoI r) h') : ∀ (n : Nat) (x0 : zq) (x1 : Int32) (x2 : Int32) (x3 : Int32) (h : zH) (r : Int32 ⊕ Nat) (h' : zH), zm153_13 k39 n x0 x1 x2 x3 h = some (r, h') → zAt 153 13 [some (zrv x0), some (zI x1), some (zI x2), some (zI x3)] [] h (zoI r) h' := by
  intro n
  induction n with
  | zero => intro x0 x1 x2 x3 h r h' H; cases H
  | succ n ih =>
    intro x0 x1 x2 x3 h r h' H
    unfold zm153_13 at H
    refine zA_ldn rfl rfl rfl ?_
    refine zA_ldn rfl rfl rfl ?_
    rcases zite_e H with ⟨c21, H⟩ | ⟨c21, H⟩
    · refine zA_brT (c := x2 ≤ x3) rfl rfl rfl c21 ?_
      exact zA_tr (L := [some (zrv x0), some (zI x1), some (zI x2), none]) rfl rfl (hk39 _ _ _ _ _ _ H)
    · refine zA_brF (c := x2 ≤ x3) rfl rfl rfl c21 ?_
      refine zA_ldn rfl rfl rfl ?_
      refine zA_aldn rfl rfl rfl ?_
      refine zA_ldn rfl rfl rfl ?_
      refine zA_push rfl rfl zkk6 ?_
      obtain ⟨p22, i23, e24, c25, H⟩ := zob_e H
      rcases zb_e H with ⟨x27, h26, C, H⟩ | ⟨E, h26, C, H⟩
      · refine zA_callV (as := [zrv x0, zI x2, zI (-1 : Int32)]) (st' := [zI x1]) rfl rfl rfl (zrcv_Q e24 c25) rfl (zmE148 _ _ _) rfl (zmS148 C) ?_
        rcases zite_e H with ⟨c28, H⟩ | ⟨c28, H⟩
        · refine zA_brT (c := x27 = 0) rfl rfl rfl c28 ?_
          refine zA_tr (L := [some (zrv x0), none, some (zI x2), some (zI x3)]) rfl rfl ?_
          refine zA_push rfl rfl zkk7 ?_
          exact zA_tr (L := [some (zrv x0), none, some (zI x2), some (zI x3)]) rfl rfl (zmS153_35 ih _ _ _ _ _ _ _ _ H)
        · refine zA_brF (c := x27 = 0) rfl rfl rfl c28 ?_
          refine zA_aldn rfl rfl rfl ?_
          refine zA_ldn rfl rfl rfl ?_
          refine zA_push rfl rfl zkk6 ?_
          rcases zb_e H with ⟨x30, h29, C, H⟩ | ⟨E, h29, C, H⟩
          · refine zA_callV (as := [zrv x0, zI x3, zI (-1 : Int32)]) (st' := [zI x1]) rfl rfl rfl (zrcv_Q e24 c25) rfl (zmE148 _ _ _) rfl (zmS148 C) ?_
            rcases zite_e H with ⟨c31, H⟩ | ⟨c31, H⟩
            · refine zA_brT (c := x30 = 0) rfl rfl rfl c31 ?_
              refine zA_tr (L := [some (zrv x0), none, some (zI x2), some (zI x3)]) rfl rfl ?_
              refine zA_push rfl rfl zkk7 ?_
              exact zA_tr (L := [some (zrv x0), none, some (zI x2), some (zI x3)]) rfl rfl (zmS153_35 ih _ _ _ _ _ _ _ _ H)
            · refine zA_brF (c := x30 = 0) rfl rfl rfl c31 ?_
              refine zA_aldn rfl rfl rfl ?_
              refine zA_ldn rfl rfl rfl ?_
              refine zA_ldn rfl rfl rfl ?_
              rcases zb_e H with ⟨x33, h32, C, H⟩ | ⟨E, h32, C, H⟩
              · refine zA_callV (as := [zrv x0, zI x2, zI x3]) (st' := [zI x1]) rfl rfl rfl (zrcv_Q e24 c25) rfl (zmE146 _ _ _) rfl (zmS146 C) ?_
                rcases zite_e H with ⟨c34, H⟩ | ⟨c34, H⟩
                · refine zA_brT (c := x33 = 0) rfl rfl rfl c34 ?_
                  refine zA_tr (L := [some (zrv x0), none, some (zI x2), some (zI x3)]) rfl rfl ?_
                  refine zA_push rfl rfl zkk7 ?_
                  exact zA_tr (L := [some (zrv x0), none, some (zI x2), some (zI x3)]) rfl rfl (zmS153_35 ih _ _ _ _ _ _ _ _ H)
                · refine zA_brF (c := x33 = 0) rfl rfl rfl c34 ?_
                  refine zA_push rfl rfl zkk5 ?_
                  refine zA_go rfl rfl ?_
                  exact zA_tr (L := [some (zrv x0), none, some (zI x2), some (zI x3)]) rfl rfl (zmS153_35 ih _ _ _ _ _ _ _ _ H)
              · cases H
                exact zA_callX (as := [zrv x0, zI x2, zI x3]) (st' := [zI x1]) rfl rfl (zrcv_Q e24 c25) rfl (zmE146 _ _ _) rfl rfl rfl (zmS146 C)
          · cases H
            exact zA_callX (as := [zrv x0, zI x3, zI (-1 : Int32)]) (st' := [zI x1]) rfl rfl (zrcv_Q e24 c25) rfl (zmE148 _ _ _) rfl rfl rfl (zmS148 C)
      · cases H
        exact zA_callX (as := [zrv x0, zI x2, zI (-1 : Int32)]) (st' := [zI x1]) rfl rfl (zrcv_Q e24 c25) rfl (zmE148 _ _ _) rfl rfl rfl (zmS148 C)
def zm153_39 (k7 : zq → Int32 → Int32 → zH → zRs Int32) (x0 : zq) (x1 : Int32) (x2 : Int32) (h : zH) : zRs Int32 :=
  zlet (x2 + (1 : Int32)) fun x21 =>
  k7 x0 x1 x21 h
theorem zmS153_39 {k7 : zq → Int32 → Int32 → zH → zRs Int32} (hk7 : ∀ (x0 : zq) (x1 : Int32) (x2 : Int32) (h : zH) (r : Int32 ⊕ Nat) (h' : zH), k7 x0 x1 x2 h = some (r, h') → zAt 153 7 [some (zrv x0), some (zI x1), some (zI x2), none] [] h (zoI r) h') : ∀ (x0 : zq) (x1 : Int32) (x2 : Int32) (h : zH) (r : Int32 ⊕ Nat) (h' : zH), zm153_39 k7 x0 x1 x2 h = some (r, h') → zAt 153 39 [some (zrv x0), some (zI x1), some (zI x2), none] [] h (zoI r) h' := by
  intro x0 x1 x2 h r h' H
  unfold zm153_39 at H
  obtain ⟨x21, e22, H⟩ := zlet_e H
  refine zA_inc rfl rfl rfl (e22.trans (congrArg (_ + ·) zkk8)) (zset1 (L' := [some (zrv x0), some (zI x1), some (zI x21), none]) rfl rfl (zpcV rfl rfl)) ?_
  refine zA_go rfl rfl ?_
  exact zA_tr (L := [some (zrv x0), some (zI x1), some (zI x21), none]) rfl rfl (hk7 _ _ _ _ _ _ H)
def zm153_7 : Nat → zq → Int32 → Int32 → zH → zRs Int32
  | 0, _, _, _, _ => none
  | n + 1, x0, x1, x2, h =>
    zob 12 x0 fun p21 i22 =>
    if (zi h p21 i22 2) ≤ x2 then
      some (.inl x1, h)
    else
      zm153_13 (zm153_39 (zm153_7 n)) zN0 x0 x1 x2 (0 : Int32) h
theorem zmS153_7 : ∀ (n : Nat) (x0 : zq) (x1 : Int32) (x2 : Int32) (h : zH) (r : Int32 ⊕ Nat) (h' : zH), zm153_7 n x0 x1 x2 h = some (r, h') → zAt 153 7 [some (zrv x0), some (zI x1), some (zI x2), none] [] h (zoI r) h' := by
  intro n
  induction n with
  | zero => intro x0 x1 x2 h r h' H; cases H
  | succ n ih =>
    intro x0 x1 x2 h r h' H
    unfold zm153_7 at H
    refine zA_ldn rfl rfl rfl ?_
    refine zA_aldn rfl rfl rfl ?_
    obtain ⟨p21, i22, e23, c24, H⟩ := zob_e H
    refine zA_gf0 rfl rfl (Or.inl rfl) e23 c24 ?_
    rcases zite_e H with ⟨c25, H⟩ | ⟨c25, H⟩
    · refine zA_brT (c := (zi h p21 i22 2) ≤ x2) rfl rfl rfl c25 ?_
      refine zA_tr (L := [none, some (zI x1), none, none]) rfl rfl ?_
      refine zA_ldn rfl rfl rfl ?_
      cases H
      exact zA_ret rfl rfl
    · refine zA_brF (c := (zi h p21 i22 2) ≤ x2) rfl rfl rfl c25 ?_
      refine zA_push rfl rfl zkk7 ?_
      refine zA_istn2 rfl rfl rfl (zset1 (L' := [some (zrv x0), some (zI x1), some (zI x2), some (zI (0 : Int32))]) rfl rfl (zpcV rfl rfl)) ?_
      exact zA_tr (L := [some (zrv x0), some (zI x1), some (zI x2), some (zI (0 : Int32))]) rfl rfl (zmS153_13 (zmS153_39 ih) zN0 _ _ _ _ _ _ _ H)
-- 153: ReleaseHouseModel.forbidden()I
def zm153 (x0 : zq) (h : zH) : zRs Int32 :=
  zob 12 x0 fun p21 i22 =>
  zlet (zsi h p21 i22 0 (0 : Int32)) fun h25 =>
  zm153_7 zN0 x0 (0 : Int32) (0 : Int32) h25
theorem zmS153 {x0 : zq} {h : zH} {r : Int32 ⊕ Nat} {h' : zH} (H : zm153 x0 h = some (r, h')) : zAt 153 0 [some (zrv x0), none, none, none] [] h (zoI r) h' := by
  unfold zm153 at H
  refine zA_aldn rfl rfl rfl ?_
  refine zA_push rfl rfl zkk7 ?_
  obtain ⟨p21, i22, e23, c24, H⟩ := zob_e H
  obtain ⟨h25, e26, H⟩ := zlet_e H
  refine zA_pf0 rfl rfl e23 c24 e26 ?_
  refine zA_push rfl rfl zkk7 ?_
  refine zA_istn2 rfl rfl rfl (zset1 (L' := [some (zrv x0), some (zI (0 : Int32)), none, none]) rfl rfl (zpcV rfl (zcat_rv _))) ?_
  refine zA_push rfl rfl zkk7 ?_
  refine zA_istn2 rfl rfl rfl (zset1 (L' := [some (zrv x0), some (zI (0 : Int32)), some (zI (0 : Int32)), none]) rfl rfl (zpcV rfl rfl)) ?_
  exact zA_tr (L := [some (zrv x0), some (zI (0 : Int32)), some (zI (0 : Int32)), none]) rfl rfl (zmS153_7 zN0 _ _ _ _ _ _ H)
theorem zmE153 (x0 : zq) : zpad (zPr.2.1 153).1 (zil [zrv x0]) = [some (zrv x0), none, none, none] := by
  simp only [zil_A, zil_I, zil_F, zil_D, zil_N]
  rfl
-- 7: ReleaseHouse$Program.<init>()V
def zm7 (x0 : zq) (h : zH) : zRs Unit :=
  znn x0 fun p21 i22 =>
  if (10 : Int32) < 0 ∨ 100000 < (10 : Int32).toNatClampNeg then none else
  zlet (znw h 22 (10 : Int32).toNatClampNeg (10 : Int32).toNatClampNeg) fun h25 =>
  zob 4 x0 fun p27 i28 =>
  zlet (zsr h25 p27 i28 0 (some (22, zct h 22))) fun h31 =>
  if (10 : Int32) < 0 ∨ 100000 < (10 : Int32).toNatClampNeg then none else
  zlet (znw h31 23 (10 : Int32).toNatClampNeg (10 : Int32).toNatClampNeg) fun h33 =>
  zlet (zsr h33 p27 i28 1 (some (23, zct h31 23))) fun h35 =>
  if (10 : Int32) < 0 ∨ 100000 < (10 : Int32).toNatClampNeg then none else
  zlet (znw h35 24 (10 : Int32).toNatClampNeg (10 : Int32).toNatClampNeg) fun h37 =>
  zlet (zsr h37 p27 i28 2 (some (24, zct h35 24))) fun h39 =>
  some (.inl (), h39)
theorem zmS7 {x0 : zq} {h : zH} {r : Unit ⊕ Nat} {h' : zH} (H : zm7 x0 h = some (r, h')) : zAt 7 0 [some (zrv x0)] [] h (zoU r) h' := by
  unfold zm7 at H
  refine zA_aldn rfl rfl rfl ?_
  obtain ⟨p21, i22, e23, H⟩ := znn_e H
  refine zA_l0 rfl rfl rfl e23 ?_
  refine zA_aldn rfl rfl rfl ?_
  refine zA_push rfl rfl zkk27 ?_
  rcases zite_e H with ⟨_, H⟩ | ⟨ch25, H⟩
  · cases H
  obtain ⟨h25, e26, H⟩ := zlet_e H
  refine zA_newA rfl rfl (fun _ _ _ _ _ => rfl) ch25 e26 ?_
  obtain ⟨p27, i28, e29, c30, H⟩ := zob_e H
  obtain ⟨h31, e32, H⟩ := zlet_e H
  refine zA_pf3 rfl rfl e29 c30 e32 ?_
  refine zA_aldn rfl rfl rfl ?_
  refine zA_push rfl rfl zkk27 ?_
  rcases zite_e H with ⟨_, H⟩ | ⟨ch33, H⟩
  · cases H
  obtain ⟨h33, e34, H⟩ := zlet_e H
  refine zA_newA rfl rfl (fun _ _ _ _ _ => rfl) ch33 e34 ?_
  obtain ⟨h35, e36, H⟩ := zlet_e H
  refine zA_pf3 rfl rfl e29 c30 e36 ?_
  refine zA_aldn rfl rfl rfl ?_
  refine zA_push rfl rfl zkk27 ?_
  rcases zite_e H with ⟨_, H⟩ | ⟨ch37, H⟩
  · cases H
  obtain ⟨h37, e38, H⟩ := zlet_e H
  refine zA_newA rfl rfl (fun _ _ _ _ _ => rfl) ch37 e38 ?_
  obtain ⟨h39, e40, H⟩ := zlet_e H
  refine zA_pf3 rfl rfl e29 c30 e40 ?_
  cases H
  exact zA_ret rfl rfl
theorem zmE7 (x0 : zq) : zpad (zPr.2.1 7).1 (zil [zrv x0]) = [some (zrv x0)] := by
  simp only [zil_A, zil_I, zil_F, zil_D, zil_N]
  rfl
-- 49: ReleaseHouse.program()I
def zm49 (x0 : zq) (h : zH) : zRs Int32 :=
  zob 11 x0 fun p21 i22 =>
  zlz (zr h p21 i22 1) h fun v30 =>
  if v30 < (6 : Int32) then
    zlet (znw h 4 0 5) fun h33 =>
    zob 4 (some (4, zct h 4)) fun p35 i36 =>
    zb2 (zm7 (some (4, zct h 4)) h33) fun _ h39 =>
    znn (zr h p21 i22 1) fun p40 i41 =>
    znn (some (4, zct h 4)) fun p47 i48 =>
    zif ((ztg p40 == 9 && ztg p47 == 0 && (zkc p47 == zel p40 && zelB h39 p40 i41)) = true) <|
    zif (zi h39 p40 i41 1 = 1 ∧ zln h39 p40 i41 < 33) <|
    zlet (zladd h39 p40 i41 p47 i48) fun h45 =>
    zlz (zr h45 p21 i22 1) h45 fun v55 =>
    some (.inl (v55 - (1 : Int32)), h45)
  else
    some (.inr 1, zro h 1 6)
theorem zmS49 {x0 : zq} {h : zH} {r : Int32 ⊕ Nat} {h' : zH} (H : zm49 x0 h = some (r, h')) : zAt 49 0 [some (zrv x0)] [] h (zoI r) h' := by
  unfold zm49 at H
  refine zA_aldn rfl rfl rfl ?_
  obtain ⟨p21, i22, e23, c24, H⟩ := zob_e H
  refine zA_gf3 rfl rfl e23 c24 ?_
  obtain ⟨p25, i26, v30, e27, c28, c29, e31, H⟩ := zlz_e H
  refine zA_l2 rfl rfl rfl e27 c28 c29 e31 ?_
  refine zA_push rfl rfl zkk14 ?_
  rcases zite_e H with ⟨c32, H⟩ | ⟨c32, H⟩
  · refine zA_brT (c := v30 < (6 : Int32)) rfl rfl rfl c32 ?_
    refine zA_aldn rfl rfl rfl ?_
    refine zA_gf3 rfl rfl e23 c24 ?_
    obtain ⟨h33, e34, H⟩ := zlet_e H
    refine zA_new (n := 5) rfl rfl (fun _ _ _ _ => rfl) e34 ?_
    refine zA_dup rfl rfl (zcat_rv _) ?_
    obtain ⟨p35, i36, e37, c38, H⟩ := zob_e H
    obtain ⟨u57, h39, C, H⟩ := zb2_e H
    refine zA_callU (as := [zrv (some (4, zct h 4))]) (st' := [zrv (some (4, zct h 4)), zrv (zr h p21 i22 1)]) rfl rfl rfl (zrcv_Q e37 c38) rfl (zmE7 _) rfl (zmS7 C) ?_
    obtain ⟨p40, i41, e42, H⟩ := znn_e H
    obtain ⟨p47, i48, e49, H⟩ := znn_e H
    obtain ⟨c43, H⟩ := zif_e H
    obtain ⟨c44, H⟩ := zif_e H
    obtain ⟨h45, e46, H⟩ := zlet_e H
    refine zA_l4 rfl rfl rfl e42 e49 c43 c44 e46 ?_
    refine zA_pop rfl rfl rfl ?_
    refine zA_aldn rfl rfl rfl ?_
    refine zA_gf3 rfl rfl e23 c24 ?_
    obtain ⟨p50, i51, v55, e52, c53, c54, e56, H⟩ := zlz_e H
    refine zA_l2 rfl rfl rfl e52 c53 c54 e56 ?_
    refine zA_push rfl rfl zkk5 ?_
    refine zA_st (st' := [zI (v55 - (1 : Int32))]) rfl rfl rfl rfl ?_
    cases H
    exact zA_ret rfl rfl
  · refine zA_brF (c := v30 < (6 : Int32)) rfl rfl rfl c32 ?_
    cases H
    exact zA_thr rfl rfl
theorem zmE49 (x0 : zq) : zpad (zPr.2.1 49).1 (zil [zrv x0]) = [some (zrv x0)] := by
  simp only [zil_A, zil_I, zil_F, zil_D, zil_N]
  rfl
-- 245: ReleaseHouseLaw.program(LReleaseHouse;[J)I
def zm245 (x0 : zq) (x1 : zq) (h : zH) : zRs Int32 :=
  zob 11 x0 fun p21 i22 =>
  zbH [(0, 6, 1, 1)] 3 (zm49 x0 h) fun x26 h25 =>
  zar 3 x1 (0 : Int32) h25 fun p27 i28 j29 =>
  zlet (zsl h25 p27 i28 j29 (x26.toInt64)) fun h34 =>
  some (.inl (0 : Int32), h34)
theorem zmS245 {x0 : zq} {x1 : zq} {h : zH} {r : Int32 ⊕ Nat} {h' : zH} (H : zm245 x0 x1 h = some (r, h')) : zAt 245 0 [some (zrv x0), some (zrv x1), none] [] h (zoI r) h' := by
  unfold zm245 at H
  refine zA_aldn rfl rfl rfl ?_
  refine zA_push rfl rfl zkk7 ?_
  refine zA_aldn rfl rfl rfl ?_
  obtain ⟨p21, i22, e23, c24, H⟩ := zob_e H
  rcases zbH_e H with ⟨x26, h25, C, H⟩ | ⟨E, h25, c36, C, hc, H⟩
  · refine zA_callV (as := [zrv x0]) (st' := [zI (0 : Int32), zrv x1]) rfl rfl rfl (zrcv_Q e23 c24) rfl (zmE49 _) rfl (zmS49 C) ?_
    refine zA_st (st' := [zJ (x26.toInt64), zI (0 : Int32), zrv x1]) rfl rfl rfl rfl ?_
    obtain ⟨p27, i28, j29, e30, c31, c32, e33, H⟩ := zar_e H
    obtain ⟨h34, e35, H⟩ := zlet_e H
    refine zA_las rfl rfl e30 c31 c32 e33 e35 ?_
    refine zA_go rfl rfl ?_
    refine zA_tr (L := [none, none, none]) rfl rfl ?_
    refine zA_push rfl rfl zkk7 ?_
    cases H
    exact zA_ret rfl rfl
  · cases H
    exact zA_callH (as := [zrv x0]) (st' := [zI (0 : Int32), zrv x1]) rfl rfl (zrcv_Q e23 c24) rfl (zmE49 _) rfl rfl rfl (List.cons_ne_nil _ _) hc (zmS49 C)
theorem zmE245 (x0 : zq) (x1 : zq) : zpad (zPr.2.1 245).1 (zil [zrv x0, zrv x1]) = [some (zrv x0), some (zrv x1), none] := by
  simp only [zil_A, zil_I, zil_F, zil_D, zil_N]
  rfl
def zm154_8 (x0 : zq) (s0 : zq) (s1 : Int32) (h : zH) : zRs Int32 :=
  zob 12 s0 fun p21 i22 =>
  zlet (zsi h p21 i22 0 s1) fun h25 =>
  zob 12 x0 fun p27 i28 =>
  if (zi h25 p27 i28 0) ≤ 0 then
    zlet (zsi h25 p27 i28 25 ((zi h25 p27 i28 25) + (1 : Int32))) fun h32 =>
    some (.inl ((zi h32 p27 i28 25) - (1 : Int32)), h32)
  else
    some (.inl (0 : Int32), h25)
theorem zmS154_8 : ∀ (x0 : zq) (s0 : zq) (s1 : Int32) (h : zH) (r : Int32 ⊕ Nat) (h' : zH), zm154_8 x0 s0 s1 h = some (r, h') → zAt 154 8 [some (zrv x0)] [zI s1, zrv s0] h (zoI r) h' := by
  intro x0 s0 s1 h r h' H
  unfold zm154_8 at H
  obtain ⟨p21, i22, e23, c24, H⟩ := zob_e H
  obtain ⟨h25, e26, H⟩ := zlet_e H
  refine zA_pf0 rfl rfl e23 c24 e26 ?_
  refine zA_aldn rfl rfl rfl ?_
  obtain ⟨p27, i28, e29, c30, H⟩ := zob_e H
  refine zA_gf0 rfl rfl (Or.inl rfl) e29 c30 ?_
  rcases zite_e H with ⟨c31, H⟩ | ⟨c31, H⟩
  · refine zA_brT (c := (zi h25 p27 i28 0) ≤ 0) rfl rfl rfl c31 ?_
    refine zA_aldn rfl rfl rfl ?_
    refine zA_dup rfl rfl (zcat_rv _) ?_
    refine zA_gf0 rfl rfl (Or.inl rfl) e29 c30 ?_
    refine zA_push rfl rfl zkk5 ?_
    refine zA_st (st' := [zI ((zi h25 p27 i28 25) + (1 : Int32)), zrv x0]) rfl rfl rfl rfl ?_
    obtain ⟨h32, e33, H⟩ := zlet_e H
    refine zA_pf0 rfl rfl e29 c30 e33 ?_
    refine zA_aldn rfl rfl rfl ?_
    refine zA_gf0 rfl rfl (Or.inl rfl) e29 c30 ?_
    refine zA_push rfl rfl zkk5 ?_
    refine zA_st (st' := [zI ((zi h32 p27 i28 25) - (1 : Int32))]) rfl rfl rfl rfl ?_
    cases H
    exact zA_ret rfl rfl
  · refine zA_brF (c := (zi h25 p27 i28 0) ≤ 0) rfl rfl rfl c31 ?_
    refine zA_push rfl rfl zkk7 ?_
    cases H
    exact zA_ret rfl rfl
-- 154: ReleaseHouseModel.program()I
def zm154 (x0 : zq) (h : zH) : zRs Int32 :=
  zob 12 x0 fun p21 i22 =>
  if (zi h p21 i22 25) = (6 : Int32) then
    zm154_8 x0 x0 (1 : Int32) h
  else
    zm154_8 x0 x0 (0 : Int32) h
theorem zmS154 {x0 : zq} {h : zH} {r : Int32 ⊕ Nat} {h' : zH} (H : zm154 x0 h = some (r, h')) : zAt 154 0 [some (zrv x0)] [] h (zoI r) h' := by
  unfold zm154 at H
  refine zA_aldn rfl rfl rfl ?_
  refine zA_aldn rfl rfl rfl ?_
  obtain ⟨p21, i22, e23, c24, H⟩ := zob_e H
  refine zA_gf0 rfl rfl (Or.inl rfl) e23 c24 ?_
  refine zA_push rfl rfl zkk14 ?_
  rcases zite_e H with ⟨c25, H⟩ | ⟨c25, H⟩
  · refine zA_brF' (c := (zi h p21 i22 25) = (6 : Int32)) rfl rfl rfl c25 ?_
    refine zA_push rfl rfl zkk5 ?_
    refine zA_go rfl rfl ?_
    exact zA_tr (L := [some (zrv x0)]) rfl rfl (zmS154_8 _ _ _ _ _ _ H)
  · refine zA_brT' (c := (zi h p21 i22 25) = (6 : Int32)) rfl rfl rfl c25 ?_
    refine zA_push rfl rfl zkk7 ?_
    exact zA_tr (L := [some (zrv x0)]) rfl rfl (zmS154_8 _ _ _ _ _ _ H)
theorem zmE154 (x0 : zq) : zpad (zPr.2.1 154).1 (zil [zrv x0]) = [some (zrv x0)] := by
  simp only [zil_A, zil_I, zil_F, zil_D, zil_N]
  rfl
-- 51: ReleaseHouse.checkStep(III)V
def zm51 (x0 : Int32) (x1 : Int32) (x2 : Int32) (h : zH) : zRs Unit :=
  if x0.toInt < 0 ∨ 6 < x0.toInt then
    some (.inr 0, zro h 1 6)
  else if x0 = (0 : Int32) then
    zb (zm131 x1 (0 : Int32) (2 : Int32) h) fun _ h38 =>
    zb (zm131 x2 (1 : Int32) (100 : Int32) h38) fun _ h39 =>
    some (.inl (), h39)
  else if x0 = (1 : Int32) then
    zb (zm131 x1 (0 : Int32) (1000 : Int32) h) fun _ h35 =>
    some (.inl (), h35)
  else if x0 = (2 : Int32) then
    zb (zm131 x1 (0 : Int32) (2 : Int32) h) fun _ h32 =>
    some (.inl (), h32)
  else if x0 = (3 : Int32) then
    zb (zm131 x1 (0 : Int32) (5 : Int32) h) fun _ h29 =>
    some (.inl (), h29)
  else if x0 = (4 : Int32) then
    zb (zm131 x1 (0 : Int32) (2 : Int32) h) fun _ h26 =>
    some (.inl (), h26)
  else if x0 = (5 : Int32) then
    some (.inl (), h)
  else if x0 = (6 : Int32) then
    zb (zm131 x1 (0 : Int32) (2 : Int32) h) fun _ h22 =>
    some (.inl (), h22)
  else none
theorem zmS51 {x0 : Int32} {x1 : Int32} {x2 : Int32} {h : zH} {r : Unit ⊕ Nat} {h' : zH} (H : zm51 x0 x1 x2 h = some (r, h')) : zAt 51 0 [some (zI x0), some (zI x1), some (zI x2)] [] h (zoU r) h' := by
  unfold zm51 at H
  refine zA_ldn rfl rfl rfl ?_
  rcases zite_e H with ⟨c21, H⟩ | ⟨c21, H⟩
  · refine zA_swD rfl rfl c21 ?_
    refine zA_tr (L := [none, none, none]) rfl rfl ?_
    cases H
    exact zA_thr rfl rfl
  · rcases zite_e H with ⟨c42, H⟩ | ⟨c42, H⟩
    · refine zA_swT (j := 0) (t := 2) rfl rfl c21 (by rw [c42]; decide) rfl ?_
      refine zA_tr (L := [none, some (zI x1), some (zI x2)]) rfl rfl ?_
      refine zA_ldn rfl rfl rfl ?_
      refine zA_push rfl rfl zkk7 ?_
      refine zA_push rfl rfl zkk23 ?_
      rcases zb_e H with ⟨u41, h38, C, H⟩ | ⟨E, h38, C, H⟩
      · refine zA_callU (as := [zI x1, zI (0 : Int32), zI (2 : Int32)]) (st' := []) rfl rfl rfl rfl rfl (zmE131 _ _ _) rfl (zmS131 C) ?_
        refine zA_ldn rfl rfl rfl ?_
        refine zA_push rfl rfl zkk5 ?_
        refine zA_push rfl rfl zkk29 ?_
        rcases zb_e H with ⟨u40, h39, C, H⟩ | ⟨E, h39, C, H⟩
        · refine zA_callU (as := [zI x2, zI (1 : Int32), zI (100 : Int32)]) (st' := []) rfl rfl rfl rfl rfl (zmE131 _ _ _) rfl (zmS131 C) ?_
          refine zA_go rfl rfl ?_
          refine zA_tr (L := [none, none, none]) rfl rfl ?_
          cases H
          exact zA_ret rfl rfl
        · cases H
          exact zA_callX (as := [zI x2, zI (1 : Int32), zI (100 : Int32)]) (st' := []) rfl rfl rfl rfl (zmE131 _ _ _) rfl rfl rfl (zmS131 C)
      · cases H
        exact zA_callX (as := [zI x1, zI (0 : Int32), zI (2 : Int32)]) (st' := []) rfl rfl rfl rfl (zmE131 _ _ _) rfl rfl rfl (zmS131 C)
    · rcases zite_e H with ⟨c37, H⟩ | ⟨c37, H⟩
      · refine zA_swT (j := 1) (t := 16) rfl rfl c21 (by rw [c37]; decide) rfl ?_
        refine zA_tr (L := [none, some (zI x1), none]) rfl rfl ?_
        refine zA_ldn rfl rfl rfl ?_
        refine zA_push rfl rfl zkk7 ?_
        refine zA_push rfl rfl zkk28 ?_
        rcases zb_e H with ⟨u36, h35, C, H⟩ | ⟨E, h35, C, H⟩
        · refine zA_callU (as := [zI x1, zI (0 : Int32), zI (1000 : Int32)]) (st' := []) rfl rfl rfl rfl rfl (zmE131 _ _ _) rfl (zmS131 C) ?_
          refine zA_go rfl rfl ?_
          refine zA_tr (L := [none, none, none]) rfl rfl ?_
          cases H
          exact zA_ret rfl rfl
        · cases H
          exact zA_callX (as := [zI x1, zI (0 : Int32), zI (1000 : Int32)]) (st' := []) rfl rfl rfl rfl (zmE131 _ _ _) rfl rfl rfl (zmS131 C)
      · rcases zite_e H with ⟨c34, H⟩ | ⟨c34, H⟩
        · refine zA_swT (j := 2) (t := 11) rfl rfl c21 (by rw [c34]; decide) rfl ?_
          refine zA_tr (L := [none, some (zI x1), none]) rfl rfl ?_
          refine zA_ldn rfl rfl rfl ?_
          refine zA_push rfl rfl zkk7 ?_
          refine zA_push rfl rfl zkk23 ?_
          rcases zb_e H with ⟨u33, h32, C, H⟩ | ⟨E, h32, C, H⟩
          · refine zA_callU (as := [zI x1, zI (0 : Int32), zI (2 : Int32)]) (st' := []) rfl rfl rfl rfl rfl (zmE131 _ _ _) rfl (zmS131 C) ?_
            refine zA_go rfl rfl ?_
            refine zA_tr (L := [none, none, none]) rfl rfl ?_
            cases H
            exact zA_ret rfl rfl
          · cases H
            exact zA_callX (as := [zI x1, zI (0 : Int32), zI (2 : Int32)]) (st' := []) rfl rfl rfl rfl (zmE131 _ _ _) rfl rfl rfl (zmS131 C)
        · rcases zite_e H with ⟨c31, H⟩ | ⟨c31, H⟩
          · refine zA_swT (j := 3) (t := 21) rfl rfl c21 (by rw [c31]; decide) rfl ?_
            refine zA_tr (L := [none, some (zI x1), none]) rfl rfl ?_
            refine zA_ldn rfl rfl rfl ?_
            refine zA_push rfl rfl zkk7 ?_
            refine zA_push rfl rfl zkk20 ?_
            rcases zb_e H with ⟨u30, h29, C, H⟩ | ⟨E, h29, C, H⟩
            · refine zA_callU (as := [zI x1, zI (0 : Int32), zI (5 : Int32)]) (st' := []) rfl rfl rfl rfl rfl (zmE131 _ _ _) rfl (zmS131 C) ?_
              refine zA_go rfl rfl ?_
              refine zA_tr (L := [none, none, none]) rfl rfl ?_
              cases H
              exact zA_ret rfl rfl
            · cases H
              exact zA_callX (as := [zI x1, zI (0 : Int32), zI (5 : Int32)]) (st' := []) rfl rfl rfl rfl (zmE131 _ _ _) rfl rfl rfl (zmS131 C)
          · rcases zite_e H with ⟨c28, H⟩ | ⟨c28, H⟩
            · refine zA_swT (j := 4) (t := 11) rfl rfl c21 (by rw [c28]; decide) rfl ?_
              refine zA_tr (L := [none, some (zI x1), none]) rfl rfl ?_
              refine zA_ldn rfl rfl rfl ?_
              refine zA_push rfl rfl zkk7 ?_
              refine zA_push rfl rfl zkk23 ?_
              rcases zb_e H with ⟨u27, h26, C, H⟩ | ⟨E, h26, C, H⟩
              · refine zA_callU (as := [zI x1, zI (0 : Int32), zI (2 : Int32)]) (st' := []) rfl rfl rfl rfl rfl (zmE131 _ _ _) rfl (zmS131 C) ?_
                refine zA_go rfl rfl ?_
                refine zA_tr (L := [none, none, none]) rfl rfl ?_
                cases H
                exact zA_ret rfl rfl
              · cases H
                exact zA_callX (as := [zI x1, zI (0 : Int32), zI (2 : Int32)]) (st' := []) rfl rfl rfl rfl (zmE131 _ _ _) rfl rfl rfl (zmS131 C)
            · rcases zite_e H with ⟨c25, H⟩ | ⟨c25, H⟩
              · refine zA_swT (j := 5) (t := 26) rfl rfl c21 (by rw [c25]; decide) rfl ?_
                refine zA_tr (L := [none, none, none]) rfl rfl ?_
                refine zA_go rfl rfl ?_
                cases H
                exact zA_ret rfl rfl
              · rcases zite_e H with ⟨c24, H⟩ | ⟨c24, H⟩
                · refine zA_swT (j := 6) (t := 11) rfl rfl c21 (by rw [c24]; decide) rfl ?_
                  refine zA_tr (L := [none, some (zI x1), none]) rfl rfl ?_
                  refine zA_ldn rfl rfl rfl ?_
                  refine zA_push rfl rfl zkk7 ?_
                  refine zA_push rfl rfl zkk23 ?_
                  rcases zb_e H with ⟨u23, h22, C, H⟩ | ⟨E, h22, C, H⟩
                  · refine zA_callU (as := [zI x1, zI (0 : Int32), zI (2 : Int32)]) (st' := []) rfl rfl rfl rfl rfl (zmE131 _ _ _) rfl (zmS131 C) ?_
                    refine zA_go rfl rfl ?_
                    refine zA_tr (L := [none, none, none]) rfl rfl ?_
                    cases H
                    exact zA_ret rfl rfl
                  · cases H
                    exact zA_callX (as := [zI x1, zI (0 : Int32), zI (2 : Int32)]) (st' := []) rfl rfl rfl rfl (zmE131 _ _ _) rfl rfl rfl (zmS131 C)
                · cases H
theorem zmE51 (x0 : Int32) (x1 : Int32) (x2 : Int32) : zpad (zPr.2.1 51).1 (zil [zI x0, zI x1, zI x2]) = [some (zI x0), some (zI x1), some (zI x2)] := by
  simp only [zil_A, zil_I, zil_F, zil_D, zil_N]
  rfl
-- 8: ReleaseHouse$Program.append(III)V
def zm8 (x0 : zq) (x1 : Int32) (x2 : Int32) (x3 : Int32) (h : zH) : zRs Unit :=
  zob 4 x0 fun p21 i22 =>
  zar 1 (zr h p21 i22 0) (zi h p21 i22 3) h fun p25 i26 j27 =>
  zlet (zsi h p25 i26 j27 x1) fun h32 =>
  zar 1 (zr h32 p21 i22 1) (zi h32 p21 i22 3) h32 fun p34 i35 j36 =>
  zlet (zsi h32 p34 i35 j36 x2) fun h41 =>
  zar 1 (zr h41 p21 i22 2) (zi h41 p21 i22 3) h41 fun p43 i44 j45 =>
  zlet (zsi h41 p43 i44 j45 x3) fun h50 =>
  zlet (zsi h50 p21 i22 3 ((zi h50 p21 i22 3) + (1 : Int32))) fun h52 =>
  some (.inl (), h52)
theorem zmS8 {x0 : zq} {x1 : Int32} {x2 : Int32} {x3 : Int32} {h : zH} {r : Unit ⊕ Nat} {h' : zH} (H : zm8 x0 x1 x2 x3 h = some (r, h')) : zAt 8 0 [some (zrv x0), some (zI x1), some (zI x2), some (zI x3)] [] h (zoU r) h' := by
  unfold zm8 at H
  refine zA_aldn rfl rfl rfl ?_
  obtain ⟨p21, i22, e23, c24, H⟩ := zob_e H
  refine zA_gf3 rfl rfl e23 c24 ?_
  refine zA_aldn rfl rfl rfl ?_
  refine zA_gf0 rfl rfl (Or.inl rfl) e23 c24 ?_
  refine zA_ldn rfl rfl rfl ?_
  obtain ⟨p25, i26, j27, e28, c29, c30, e31, H⟩ := zar_e H
  obtain ⟨h32, e33, H⟩ := zlet_e H
  refine zA_ias rfl rfl e28 c29 c30 e31 e33 ?_
  refine zA_aldn rfl rfl rfl ?_
  refine zA_gf3 rfl rfl e23 c24 ?_
  refine zA_aldn rfl rfl rfl ?_
  refine zA_gf0 rfl rfl (Or.inl rfl) e23 c24 ?_
  refine zA_ldn rfl rfl rfl ?_
  obtain ⟨p34, i35, j36, e37, c38, c39, e40, H⟩ := zar_e H
  obtain ⟨h41, e42, H⟩ := zlet_e H
  refine zA_ias rfl rfl e37 c38 c39 e40 e42 ?_
  refine zA_aldn rfl rfl rfl ?_
  refine zA_gf3 rfl rfl e23 c24 ?_
  refine zA_aldn rfl rfl rfl ?_
  refine zA_gf0 rfl rfl (Or.inl rfl) e23 c24 ?_
  refine zA_ldn rfl rfl rfl ?_
  obtain ⟨p43, i44, j45, e46, c47, c48, e49, H⟩ := zar_e H
  obtain ⟨h50, e51, H⟩ := zlet_e H
  refine zA_ias rfl rfl e46 c47 c48 e49 e51 ?_
  refine zA_aldn rfl rfl rfl ?_
  refine zA_dup rfl rfl (zcat_rv _) ?_
  refine zA_gf0 rfl rfl (Or.inl rfl) e23 c24 ?_
  refine zA_push rfl rfl zkk5 ?_
  refine zA_st (st' := [zI ((zi h50 p21 i22 3) + (1 : Int32)), zrv x0]) rfl rfl rfl rfl ?_
  obtain ⟨h52, e53, H⟩ := zlet_e H
  refine zA_pf0 rfl rfl e23 c24 e53 ?_
  cases H
  exact zA_ret rfl rfl
theorem zmE8 (x0 : zq) (x1 : Int32) (x2 : Int32) (x3 : Int32) : zpad (zPr.2.1 8).1 (zil [zrv x0, zI x1, zI x2, zI x3]) = [some (zrv x0), some (zI x1), some (zI x2), some (zI x3)] := by
  simp only [zil_A, zil_I, zil_F, zil_D, zil_N]
  rfl
-- 50: ReleaseHouse.step(IIII)I
def zm50 (x0 : zq) (x1 : Int32) (x2 : Int32) (x3 : Int32) (x4 : Int32) (h : zH) : zRs Int32 :=
  zob 11 x0 fun p21 i22 =>
  zlz (zr h p21 i22 1) h fun v30 =>
  zb (zm130 x1 v30 h) fun _ h32 =>
  zb (zm51 x2 x3 x4 h32) fun _ h33 =>
  zlg (zr h33 p21 i22 1) x1 h33 fun v40 =>
  zob 4 v40 fun p42 i43 =>
  if (10 : Int32) ≤ (zi h33 p42 i43 3) then
    some (.inr 1, zro h33 1 6)
  else
    if (zi h33 p42 i43 4) = 0 then
      zb (zm8 v40 x2 x3 x4 h33) fun _ h48 =>
      some (.inl (zi h48 p42 i43 3), h48)
    else
      some (.inr 1, zro h33 1 6)
theorem zmS50 {x0 : zq} {x1 : Int32} {x2 : Int32} {x3 : Int32} {x4 : Int32} {h : zH} {r : Int32 ⊕ Nat} {h' : zH} (H : zm50 x0 x1 x2 x3 x4 h = some (r, h')) : zAt 50 0 [some (zrv x0), some (zI x1), some (zI x2), some (zI x3), some (zI x4), none] [] h (zoI r) h' := by
  unfold zm50 at H
  refine zA_ldn rfl rfl rfl ?_
  refine zA_aldn rfl rfl rfl ?_
  obtain ⟨p21, i22, e23, c24, H⟩ := zob_e H
  refine zA_gf3 rfl rfl e23 c24 ?_
  obtain ⟨p25, i26, v30, e27, c28, c29, e31, H⟩ := zlz_e H
  refine zA_l2 rfl rfl rfl e27 c28 c29 e31 ?_
  rcases zb_e H with ⟨u51, h32, C, H⟩ | ⟨E, h32, C, H⟩
  · refine zA_callU (as := [zI x1, zI v30]) (st' := []) rfl rfl rfl rfl rfl (zmE130 _ _) rfl (zmS130 C) ?_
    refine zA_ldn rfl rfl rfl ?_
    refine zA_ldn rfl rfl rfl ?_
    refine zA_ld rfl rfl rfl ?_
    rcases zb_e H with ⟨u50, h33, C, H⟩ | ⟨E, h33, C, H⟩
    · refine zA_callU (as := [zI x2, zI x3, zI x4]) (st' := []) rfl rfl rfl rfl rfl (zmE51 _ _ _) rfl (zmS51 C) ?_
      refine zA_aldn rfl rfl rfl ?_
      refine zA_gf3 rfl rfl e23 c24 ?_
      refine zA_ldn rfl rfl rfl ?_
      obtain ⟨p34, i35, v40, e36, c37, c38, c39, e41, H⟩ := zlg_e H
      refine zA_l3 rfl rfl rfl e36 c37 c38 c39 e41 ?_
      obtain ⟨p42, i43, e44, c45, H⟩ := zob_e H
      refine zA_cast rfl rfl e44 c45 ?_
      refine zA_ast2 rfl rfl rfl (zset1 (L' := [some (zrv x0), some (zI x1), some (zI x2), some (zI x3), some (zI x4), some (zrv v40)]) (zcat_rv _) rfl (zpcV rfl rfl)) ?_
      refine zA_ald rfl rfl rfl ?_
      refine zA_gf0 rfl rfl (Or.inl rfl) e44 c45 ?_
      refine zA_push rfl rfl zkk27 ?_
      rcases zite_e H with ⟨c46, H⟩ | ⟨c46, H⟩
      · refine zA_brT (c := (10 : Int32) ≤ (zi h33 p42 i43 3)) rfl rfl rfl c46 ?_
        refine zA_tr (L := [none, none, none, none, none, none]) rfl rfl ?_
        cases H
        exact zA_thr rfl rfl
      · refine zA_brF (c := (10 : Int32) ≤ (zi h33 p42 i43 3)) rfl rfl rfl c46 ?_
        refine zA_ald rfl rfl rfl ?_
        refine zA_gf0 rfl rfl (Or.inr rfl) e44 c45 ?_
        rcases zite_e H with ⟨c47, H⟩ | ⟨c47, H⟩
        · refine zA_brT (c := (zi h33 p42 i43 4) = 0) rfl rfl rfl c47 ?_
          refine zA_tr (L := [none, none, some (zI x2), some (zI x3), some (zI x4), some (zrv v40)]) rfl rfl ?_
          refine zA_ald rfl rfl rfl ?_
          refine zA_ldn rfl rfl rfl ?_
          refine zA_ldn rfl rfl rfl ?_
          refine zA_ld rfl rfl rfl ?_
          rcases zb_e H with ⟨u49, h48, C, H⟩ | ⟨E, h48, C, H⟩
          · refine zA_callU (as := [zrv v40, zI x2, zI x3, zI x4]) (st' := []) rfl rfl rfl (zrcv_Q e44 c45) rfl (zmE8 _ _ _ _) rfl (zmS8 C) ?_
            refine zA_ald rfl rfl rfl ?_
            refine zA_gf0 rfl rfl (Or.inl rfl) e44 c45 ?_
            cases H
            exact zA_ret rfl rfl
          · cases H
            exact zA_callX (as := [zrv v40, zI x2, zI x3, zI x4]) (st' := []) rfl rfl (zrcv_Q e44 c45) rfl (zmE8 _ _ _ _) rfl rfl rfl (zmS8 C)
        · refine zA_brF (c := (zi h33 p42 i43 4) = 0) rfl rfl rfl c47 ?_
          refine zA_tr (L := [none, none, none, none, none, none]) rfl rfl ?_
          cases H
          exact zA_thr rfl rfl
    · cases H
      exact zA_callX (as := [zI x2, zI x3, zI x4]) (st' := []) rfl rfl rfl rfl (zmE51 _ _ _) rfl rfl rfl (zmS51 C)
  · cases H
    exact zA_callX (as := [zI x1, zI v30]) (st' := []) rfl rfl rfl rfl (zmE130 _ _) rfl rfl rfl (zmS130 C)
theorem zmE50 (x0 : zq) (x1 : Int32) (x2 : Int32) (x3 : Int32) (x4 : Int32) : zpad (zPr.2.1 50).1 (zil [zrv x0, zI x1, zI x2, zI x3, zI x4]) = [some (zrv x0), some (zI x1), some (zI x2), some (zI x3), some (zI x4), none] := by
  simp only [zil_A, zil_I, zil_F, zil_D, zil_N]
  rfl
-- 246: ReleaseHouseLaw.step(LReleaseHouse;IIII[J)I
def zm246 (x0 : zq) (x1 : Int32) (x2 : Int32) (x3 : Int32) (x4 : Int32) (x5 : zq) (h : zH) : zRs Int32 :=
  zob 11 x0 fun p21 i22 =>
  zbH [(0, 10, 2, 1), (0, 10, 0, 2), (0, 10, 1, 3)] 7 (zm50 x0 x1 x2 x3 x4 h) fun x26 h25 =>
  zar 3 x5 (0 : Int32) h25 fun p27 i28 j29 =>
  zlet (zsl h25 p27 i28 j29 (x26.toInt64)) fun h34 =>
  some (.inl (0 : Int32), h34)
theorem zmS246 {x0 : zq} {x1 : Int32} {x2 : Int32} {x3 : Int32} {x4 : Int32} {x5 : zq} {h : zH} {r : Int32 ⊕ Nat} {h' : zH} (H : zm246 x0 x1 x2 x3 x4 x5 h = some (r, h')) : zAt 246 0 [some (zrv x0), some (zI x1), some (zI x2), some (zI x3), some (zI x4), some (zrv x5), none] [] h (zoI r) h' := by
  unfold zm246 at H
  refine zA_ald rfl rfl rfl ?_
  refine zA_push rfl rfl zkk7 ?_
  refine zA_aldn rfl rfl rfl ?_
  refine zA_ldn rfl rfl rfl ?_
  refine zA_ldn rfl rfl rfl ?_
  refine zA_ldn rfl rfl rfl ?_
  refine zA_ld rfl rfl rfl ?_
  obtain ⟨p21, i22, e23, c24, H⟩ := zob_e H
  rcases zbH_e H with ⟨x26, h25, C, H⟩ | ⟨E, h25, c36, C, hc, H⟩
  · refine zA_callV (as := [zrv x0, zI x1, zI x2, zI x3, zI x4]) (st' := [zI (0 : Int32), zrv x5]) rfl rfl rfl (zrcv_Q e23 c24) rfl (zmE50 _ _ _ _ _) rfl (zmS50 C) ?_
    refine zA_st (st' := [zJ (x26.toInt64), zI (0 : Int32), zrv x5]) rfl rfl rfl rfl ?_
    obtain ⟨p27, i28, j29, e30, c31, c32, e33, H⟩ := zar_e H
    obtain ⟨h34, e35, H⟩ := zlet_e H
    refine zA_las rfl rfl e30 c31 c32 e33 e35 ?_
    refine zA_go rfl rfl ?_
    refine zA_tr (L := [none, none, none, none, none, none, none]) rfl rfl ?_
    refine zA_push rfl rfl zkk7 ?_
    cases H
    exact zA_ret rfl rfl
  · cases H
    exact zA_callH (as := [zrv x0, zI x1, zI x2, zI x3, zI x4]) (st' := [zI (0 : Int32), zrv x5]) rfl rfl (zrcv_Q e23 c24) rfl (zmE50 _ _ _ _ _) rfl rfl rfl (List.cons_ne_nil _ _) hc (zmS50 C)
theorem zmE246 (x0 : zq) (x1 : Int32) (x2 : Int32) (x3 : Int32) (x4 : Int32) (x5 : zq) : zpad (zPr.2.1 246).1 (zil [zrv x0, zI x1, zI x2, zI x3, zI x4, zrv x5]) = [some (zrv x0), some (zI x1), some (zI x2), some (zI x3), some (zI x4), some (zrv x5), none] := by
  simp only [zil_A, zil_I, zil_F, zil_D, zil_N]
  rfl
-- 138: ReleaseHouseModel.fails(I)I
def zm138 (x0 : zq) (x1 : Int32) (h : zH) : zRs Int32 :=
  zob 12 x0 fun p21 i22 =>
  zlet (zsi h p21 i22 0 x1) fun h25 =>
  some (.inl (0 : Int32), h25)
theorem zmS138 {x0 : zq} {x1 : Int32} {h : zH} {r : Int32 ⊕ Nat} {h' : zH} (H : zm138 x0 x1 h = some (r, h')) : zAt 138 0 [some (zrv x0), some (zI x1)] [] h (zoI r) h' := by
  unfold zm138 at H
  refine zA_aldn rfl rfl rfl ?_
  refine zA_ldn rfl rfl rfl ?_
  obtain ⟨p21, i22, e23, c24, H⟩ := zob_e H
  obtain ⟨h25, e26, H⟩ := zlet_e H
  refine zA_pf0 rfl rfl e23 c24 e26 ?_
  refine zA_push rfl rfl zkk7 ?_
  cases H
  exact zA_ret rfl rfl
theorem zmE138 (x0 : zq) (x1 : Int32) : zpad (zPr.2.1 138).1 (zil [zrv x0, zI x1]) = [some (zrv x0), some (zI x1)] := by
  simp only [zil_A, zil_I, zil_F, zil_D, zil_N]
  rfl
-- 141: ReleaseHouseModel.isRing(I)Z
def zm141 (x0 : Int32) (h : zH) : zRs Int32 :=
  zb (zm139 x0 (0 : Int32) (2 : Int32) h) fun x22 h21 =>
  zif (x22 = 0 ∨ x22 = 1) <|
  some (.inl x22, h21)
theorem zmS141 {x0 : Int32} {h : zH} {r : Int32 ⊕ Nat} {h' : zH} (H : zm141 x0 h = some (r, h')) : zAt 141 0 [some (zI x0)] [] h (zoI r) h' := by
  unfold zm141 at H
  refine zA_ldn rfl rfl rfl ?_
  refine zA_push rfl rfl zkk7 ?_
  refine zA_push rfl rfl zkk23 ?_
  rcases zb_e H with ⟨x22, h21, C, H⟩ | ⟨E, h21, C, H⟩
  · refine zA_callV (as := [zI x0, zI (0 : Int32), zI (2 : Int32)]) (st' := []) rfl rfl rfl rfl rfl (zmE139 _ _ _) rfl (zmS139 C) ?_
    obtain ⟨c23, H⟩ := zif_e H
    cases H
    exact zA_ret rfl (zret_Z c23)
  · cases H
    exact zA_callX (as := [zI x0, zI (0 : Int32), zI (2 : Int32)]) (st' := []) rfl rfl rfl rfl (zmE139 _ _ _) rfl rfl rfl (zmS139 C)
theorem zmE141 (x0 : Int32) : zpad (zPr.2.1 141).1 (zil [zI x0]) = [some (zI x0)] := by
  simp only [zil_A, zil_I, zil_F, zil_D, zil_N]
  rfl
def zm155_71 (k56 : zq → Int32 → Int32 → Int32 → Int32 → Int32 → Int32 → Int32 → zH → zRs Int32) (x0 : zq) (x1 : Int32) (x2 : Int32) (x3 : Int32) (x4 : Int32) (x5 : Int32) (x7 : Int32) (s0 : Int32) (h : zH) : zRs Int32 :=
  zlet (x7 + (1 : Int32)) fun x21 =>
  k56 x0 x1 x2 x3 x4 x5 s0 x21 h
theorem zmS155_71 {k56 : zq → Int32 → Int32 → Int32 → Int32 → Int32 → Int32 → Int32 → zH → zRs Int32} (hk56 : ∀ (x0 : zq) (x1 : Int32) (x2 : Int32) (x3 : Int32) (x4 : Int32) (x5 : Int32) (x6 : Int32) (x7 : Int32) (h : zH) (r : Int32 ⊕ Nat) (h' : zH), k56 x0 x1 x2 x3 x4 x5 x6 x7 h = some (r, h') → zAt 155 56 [some (zrv x0), some (zI x1), some (zI x2), some (zI x3), some (zI x4), some (zI x5), some (zI x6), some (zI x7)] [] h (zoI r) h') : ∀ (x0 : zq) (x1 : Int32) (x2 : Int32) (x3 : Int32) (x4 : Int32) (x5 : Int32) (x7 : Int32) (s0 : Int32) (h : zH) (r : Int32 ⊕ Nat) (h' : zH), zm155_71 k56 x0 x1 x2 x3 x4 x5 x7 s0 h = some (r, h') → zAt 155 71 [some (zrv x0), some (zI x1), some (zI x2), some (zI x3), some (zI x4), some (zI x5), none, some (zI x7)] [zI s0] h (zoI r) h' := by
  intro x0 x1 x2 x3 x4 x5 x7 s0 h r h' H
  unfold zm155_71 at H
  refine zA_ist2 rfl rfl rfl (zset1 (L' := [some (zrv x0), some (zI x1), some (zI x2), some (zI x3), some (zI x4), some (zI x5), some (zI s0), some (zI x7)]) rfl rfl (zpcV rfl rfl)) ?_
  obtain ⟨x21, e22, H⟩ := zlet_e H
  refine zA_inc rfl rfl rfl (e22.trans (congrArg (_ + ·) zkk8)) (zset1 (L' := [some (zrv x0), some (zI x1), some (zI x2), some (zI x3), some (zI x4), some (zI x5), some (zI s0), some (zI x21)]) rfl rfl (zpcV rfl rfl)) ?_
  refine zA_go rfl rfl ?_
  exact zA_tr (L := [some (zrv x0), some (zI x1), some (zI x2), some (zI x3), some (zI x4), some (zI x5), some (zI s0), some (zI x21)]) rfl rfl (hk56 _ _ _ _ _ _ _ _ _ _ _ H)
def zm155_56 (k74 : zq → Int32 → Int32 → Int32 → Int32 → Int32 → Int32 → zH → zRs Int32) : Nat → zq → Int32 → Int32 → Int32 → Int32 → Int32 → Int32 → Int32 → zH → zRs Int32
  | 0, _, _, _, _, _, _, _, _, _ => none
  | n + 1, x0, x1, x2, x3, x4, x5, x6, x7, h =>
    zob 12 x0 fun p21 i22 =>
    if (zi h p21 i22 30) ≤ x7 then
      k74 x0 x1 x2 x3 x4 x5 x6 h
    else
      if x6 = 0 then
        zri (zr h p21 i22 32) x7 h fun v34 =>
        if v34 = x1 then
          zm155_71 (zm155_56 k74 n) x0 x1 x2 x3 x4 x5 x7 (1 : Int32) h
        else
          zm155_71 (zm155_56 k74 n) x0 x1 x2 x3 x4 x5 x7 (0 : Int32) h
      else
        zm155_71 (zm155_56 k74 n) x0 x1 x2 x3 x4 x5 x7 (1 : Int32) h
theorem zmS155_56 {k74 : zq → Int32 → Int32 → Int32 → Int32 → Int32 → Int32 → zH → zRs Int32} (hk74 : ∀ (x0 : zq) (x1 : Int32) (x2 : Int32) (x3 : Int32) (x4 : Int32) (x5 : Int32) (x6 : Int32) (h : zH) (r : Int32 ⊕ Nat) (h' : zH), k74 x0 x1 x2 x3 x4 x5 x6 h = some (r, h') → zAt 155 74 [some (zrv x0), some (zI x1), some (zI x2), some (zI x3), some (zI x4), some (zI x5), some (zI x6), none] [] h (zoI r) h') : ∀ (n : Nat) (x0 : zq) (x1 : Int32) (x2 : Int32) (x3 : Int32) (x4 : Int32) (x5 : Int32) (x6 : Int32) (x7 : Int32) (h : zH) (r : Int32 ⊕ Nat) (h' : zH), zm155_56 k74 n x0 x1 x2 x3 x4 x5 x6 x7 h = some (r, h') → zAt 155 56 [some (zrv x0), some (zI x1), some (zI x2), some (zI x3), some (zI x4), some (zI x5), some (zI x6), some (zI x7)] [] h (zoI r) h' := by
  intro n
  induction n with
  | zero => intro x0 x1 x2 x3 x4 x5 x6 x7 h r h' H; cases H
  | succ n ih =>
    intro x0 x1 x2 x3 x4 x5 x6 x7 h r h' H
    unfold zm155_56 at H
    refine zA_ld rfl rfl rfl ?_
    refine zA_aldn rfl rfl rfl ?_
    obtain ⟨p21, i22, e23, c24, H⟩ := zob_e H
    refine zA_gf0 rfl rfl (Or.inl rfl) e23 c24 ?_
    rcases zite_e H with ⟨c25, H⟩ | ⟨c25, H⟩
    · refine zA_brT (c := (zi h p21 i22 30) ≤ x7) rfl rfl rfl c25 ?_
      exact zA_tr (L := [some (zrv x0), some (zI x1), some (zI x2), some (zI x3), some (zI x4), some (zI x5), some (zI x6), none]) rfl rfl (hk74 _ _ _ _ _ _ _ _ _ _ H)
    · refine zA_brF (c := (zi h p21 i22 30) ≤ x7) rfl rfl rfl c25 ?_
      refine zA_ld rfl rfl rfl ?_
      rcases zite_e H with ⟨c26, H⟩ | ⟨c26, H⟩
      · refine zA_brF' (c := x6 = 0) rfl rfl rfl c26 ?_
        refine zA_aldn rfl rfl rfl ?_
        refine zA_gf3 rfl rfl e23 c24 ?_
        refine zA_ld rfl rfl rfl ?_
        obtain ⟨p27, i28, j29, v34, e30, c31, c32, e33, e35, H⟩ := zri_e H
        refine zA_ial rfl rfl e30 c31 c32 e33 e35 ?_
        refine zA_ldn rfl rfl rfl ?_
        rcases zite_e H with ⟨c36, H⟩ | ⟨c36, H⟩
        · refine zA_brF' (c := v34 = x1) rfl rfl rfl c36 ?_
          refine zA_tr (L := [some (zrv x0), some (zI x1), some (zI x2), some (zI x3), some (zI x4), some (zI x5), none, some (zI x7)]) rfl rfl ?_
          refine zA_push rfl rfl zkk5 ?_
          refine zA_go rfl rfl ?_
          exact zA_tr (L := [some (zrv x0), some (zI x1), some (zI x2), some (zI x3), some (zI x4), some (zI x5), none, some (zI x7)]) rfl rfl (zmS155_71 ih _ _ _ _ _ _ _ _ _ _ _ H)
        · refine zA_brT' (c := v34 = x1) rfl rfl rfl c36 ?_
          refine zA_tr (L := [some (zrv x0), some (zI x1), some (zI x2), some (zI x3), some (zI x4), some (zI x5), none, some (zI x7)]) rfl rfl ?_
          refine zA_push rfl rfl zkk7 ?_
          exact zA_tr (L := [some (zrv x0), some (zI x1), some (zI x2), some (zI x3), some (zI x4), some (zI x5), none, some (zI x7)]) rfl rfl (zmS155_71 ih _ _ _ _ _ _ _ _ _ _ _ H)
      · refine zA_brT' (c := x6 = 0) rfl rfl rfl c26 ?_
        refine zA_tr (L := [some (zrv x0), some (zI x1), some (zI x2), some (zI x3), some (zI x4), some (zI x5), none, some (zI x7)]) rfl rfl ?_
        refine zA_push rfl rfl zkk5 ?_
        refine zA_go rfl rfl ?_
        exact zA_tr (L := [some (zrv x0), some (zI x1), some (zI x2), some (zI x3), some (zI x4), some (zI x5), none, some (zI x7)]) rfl rfl (zmS155_71 ih _ _ _ _ _ _ _ _ _ _ _ H)
def zm155_90 (x0 : zq) (x1 : Int32) (x2 : Int32) (x3 : Int32) (x4 : Int32) (s0 : zq) (s1 : Int32) (h : zH) : zRs Int32 :=
  zob 12 s0 fun p21 i22 =>
  zlet (zsi h p21 i22 0 s1) fun h25 =>
  zob 12 x0 fun p27 i28 =>
  if (zi h25 p27 i28 0) ≤ 0 then
    zri (zr h25 p27 i28 26) x1 h25 fun v39 =>
    zlet (((10 : Int32) * x1) + v39) fun x41 =>
    zar 1 (zr h25 p27 i28 27) x41 h25 fun p43 i44 j45 =>
    zlet (zsi h25 p43 i44 j45 x2) fun h50 =>
    zar 1 (zr h50 p27 i28 28) x41 h50 fun p52 i53 j54 =>
    zlet (zsi h50 p52 i53 j54 x3) fun h59 =>
    zar 1 (zr h59 p27 i28 29) x41 h59 fun p61 i62 j63 =>
    zlet (zsi h59 p61 i62 j63 x4) fun h68 =>
    zri (zr h68 p27 i28 26) x1 h68 fun v77 =>
    zar 1 (zr h68 p27 i28 26) x1 h68 fun p79 i80 j81 =>
    zlet (zsi h68 p79 i80 j81 (v77 + (1 : Int32))) fun h86 =>
    zri (zr h86 p27 i28 26) x1 h86 fun v95 =>
    some (.inl v95, h86)
  else
    some (.inl (0 : Int32), h25)
theorem zmS155_90 : ∀ (x0 : zq) (x1 : Int32) (x2 : Int32) (x3 : Int32) (x4 : Int32) (s0 : zq) (s1 : Int32) (h : zH) (r : Int32 ⊕ Nat) (h' : zH), zm155_90 x0 x1 x2 x3 x4 s0 s1 h = some (r, h') → zAt 155 90 [some (zrv x0), some (zI x1), some (zI x2), some (zI x3), some (zI x4), none, none, none] [zI s1, zrv s0] h (zoI r) h' := by
  intro x0 x1 x2 x3 x4 s0 s1 h r h' H
  unfold zm155_90 at H
  obtain ⟨p21, i22, e23, c24, H⟩ := zob_e H
  obtain ⟨h25, e26, H⟩ := zlet_e H
  refine zA_pf0 rfl rfl e23 c24 e26 ?_
  refine zA_aldn rfl rfl rfl ?_
  obtain ⟨p27, i28, e29, c30, H⟩ := zob_e H
  refine zA_gf0 rfl rfl (Or.inl rfl) e29 c30 ?_
  rcases zite_e H with ⟨c31, H⟩ | ⟨c31, H⟩
  · refine zA_brT (c := (zi h25 p27 i28 0) ≤ 0) rfl rfl rfl c31 ?_
    refine zA_push rfl rfl zkk27 ?_
    refine zA_ldn rfl rfl rfl ?_
    refine zA_st (st' := [zI ((10 : Int32) * x1)]) rfl rfl rfl rfl ?_
    refine zA_aldn rfl rfl rfl ?_
    refine zA_gf3 rfl rfl e29 c30 ?_
    refine zA_ldn rfl rfl rfl ?_
    obtain ⟨p32, i33, j34, v39, e35, c36, c37, e38, e40, H⟩ := zri_e H
    refine zA_ial rfl rfl e35 c36 c37 e38 e40 ?_
    refine zA_st (st' := [zI (((10 : Int32) * x1) + v39)]) rfl rfl rfl rfl ?_
    obtain ⟨x41, e42, H⟩ := zlet_e H
    refine zA_ist2 rfl rfl e42 (zset1 (L' := [some (zrv x0), some (zI x1), some (zI x2), some (zI x3), some (zI x4), none, none, some (zI x41)]) rfl rfl (zpcN rfl)) ?_
    refine zA_aldn rfl rfl rfl ?_
    refine zA_gf3 rfl rfl e29 c30 ?_
    refine zA_ld rfl rfl rfl ?_
    refine zA_ldn rfl rfl rfl ?_
    obtain ⟨p43, i44, j45, e46, c47, c48, e49, H⟩ := zar_e H
    obtain ⟨h50, e51, H⟩ := zlet_e H
    refine zA_ias rfl rfl e46 c47 c48 e49 e51 ?_
    refine zA_aldn rfl rfl rfl ?_
    refine zA_gf3 rfl rfl e29 c30 ?_
    refine zA_ld rfl rfl rfl ?_
    refine zA_ldn rfl rfl rfl ?_
    obtain ⟨p52, i53, j54, e55, c56, c57, e58, H⟩ := zar_e H
    obtain ⟨h59, e60, H⟩ := zlet_e H
    refine zA_ias rfl rfl e55 c56 c57 e58 e60 ?_
    refine zA_aldn rfl rfl rfl ?_
    refine zA_gf3 rfl rfl e29 c30 ?_
    refine zA_ld rfl rfl rfl ?_
    refine zA_ld rfl rfl rfl ?_
    obtain ⟨p61, i62, j63, e64, c65, c66, e67, H⟩ := zar_e H
    obtain ⟨h68, e69, H⟩ := zlet_e H
    refine zA_ias rfl rfl e64 c65 c66 e67 e69 ?_
    refine zA_aldn rfl rfl rfl ?_
    refine zA_gf3 rfl rfl e29 c30 ?_
    refine zA_ldn rfl rfl rfl ?_
    refine zA_dup2 rfl rfl rfl (zcat_rv _) ?_
    obtain ⟨p70, i71, j72, v77, e73, c74, c75, e76, e78, H⟩ := zri_e H
    refine zA_ial rfl rfl e73 c74 c75 e76 e78 ?_
    refine zA_push rfl rfl zkk5 ?_
    refine zA_st (st' := [zI (v77 + (1 : Int32)), zI x1, zrv (zr h68 p27 i28 26)]) rfl rfl rfl rfl ?_
    obtain ⟨p79, i80, j81, e82, c83, c84, e85, H⟩ := zar_e H
    obtain ⟨h86, e87, H⟩ := zlet_e H
    refine zA_ias rfl rfl e82 c83 c84 e85 e87 ?_
    refine zA_aldn rfl rfl rfl ?_
    refine zA_gf3 rfl rfl e29 c30 ?_
    refine zA_ldn rfl rfl rfl ?_
    obtain ⟨p88, i89, j90, v95, e91, c92, c93, e94, e96, H⟩ := zri_e H
    refine zA_ial rfl rfl e91 c92 c93 e94 e96 ?_
    cases H
    exact zA_ret rfl rfl
  · refine zA_brF (c := (zi h25 p27 i28 0) ≤ 0) rfl rfl rfl c31 ?_
    refine zA_push rfl rfl zkk7 ?_
    cases H
    exact zA_ret rfl rfl
def zm155_74 (x0 : zq) (x1 : Int32) (x2 : Int32) (x3 : Int32) (x4 : Int32) (x5 : Int32) (x6 : Int32) (h : zH) : zRs Int32 :=
  if x5 = 0 then
    zm155_90 x0 x1 x2 x3 x4 x0 (2 : Int32) h
  else
    zob 12 x0 fun p22 i23 =>
    zri (zr h p22 i23 26) x1 h fun v33 =>
    if v33 = (10 : Int32) then
      zm155_90 x0 x1 x2 x3 x4 x0 (3 : Int32) h
    else
      if x6 = 0 then
        zm155_90 x0 x1 x2 x3 x4 x0 (0 : Int32) h
      else
        zm155_90 x0 x1 x2 x3 x4 x0 (3 : Int32) h
theorem zmS155_74 : ∀ (x0 : zq) (x1 : Int32) (x2 : Int32) (x3 : Int32) (x4 : Int32) (x5 : Int32) (x6 : Int32) (h : zH) (r : Int32 ⊕ Nat) (h' : zH), zm155_74 x0 x1 x2 x3 x4 x5 x6 h = some (r, h') → zAt 155 74 [some (zrv x0), some (zI x1), some (zI x2), some (zI x3), some (zI x4), some (zI x5), some (zI x6), none] [] h (zoI r) h' := by
  intro x0 x1 x2 x3 x4 x5 x6 h r h' H
  unfold zm155_74 at H
  refine zA_aldn rfl rfl rfl ?_
  refine zA_ld rfl rfl rfl ?_
  rcases zite_e H with ⟨c21, H⟩ | ⟨c21, H⟩
  · refine zA_brF' (c := x5 = 0) rfl rfl rfl c21 ?_
    refine zA_push rfl rfl zkk23 ?_
    refine zA_go rfl rfl ?_
    exact zA_tr (L := [some (zrv x0), some (zI x1), some (zI x2), some (zI x3), some (zI x4), none, none, none]) rfl rfl (zmS155_90 _ _ _ _ _ _ _ _ _ _ H)
  · refine zA_brT' (c := x5 = 0) rfl rfl rfl c21 ?_
    refine zA_tr (L := [some (zrv x0), some (zI x1), some (zI x2), some (zI x3), some (zI x4), none, some (zI x6), none]) rfl rfl ?_
    refine zA_aldn rfl rfl rfl ?_
    obtain ⟨p22, i23, e24, c25, H⟩ := zob_e H
    refine zA_gf3 rfl rfl e24 c25 ?_
    refine zA_ldn rfl rfl rfl ?_
    obtain ⟨p26, i27, j28, v33, e29, c30, c31, e32, e34, H⟩ := zri_e H
    refine zA_ial rfl rfl e29 c30 c31 e32 e34 ?_
    refine zA_push rfl rfl zkk27 ?_
    rcases zite_e H with ⟨c35, H⟩ | ⟨c35, H⟩
    · refine zA_brT (c := v33 = (10 : Int32)) rfl rfl rfl c35 ?_
      refine zA_tr (L := [some (zrv x0), some (zI x1), some (zI x2), some (zI x3), some (zI x4), none, none, none]) rfl rfl ?_
      refine zA_push rfl rfl zkk3 ?_
      refine zA_go rfl rfl ?_
      exact zA_tr (L := [some (zrv x0), some (zI x1), some (zI x2), some (zI x3), some (zI x4), none, none, none]) rfl rfl (zmS155_90 _ _ _ _ _ _ _ _ _ _ H)
    · refine zA_brF (c := v33 = (10 : Int32)) rfl rfl rfl c35 ?_
      refine zA_ld rfl rfl rfl ?_
      rcases zite_e H with ⟨c36, H⟩ | ⟨c36, H⟩
      · refine zA_brT (c := x6 = 0) rfl rfl rfl c36 ?_
        refine zA_tr (L := [some (zrv x0), some (zI x1), some (zI x2), some (zI x3), some (zI x4), none, none, none]) rfl rfl ?_
        refine zA_push rfl rfl zkk7 ?_
        exact zA_tr (L := [some (zrv x0), some (zI x1), some (zI x2), some (zI x3), some (zI x4), none, none, none]) rfl rfl (zmS155_90 _ _ _ _ _ _ _ _ _ _ H)
      · refine zA_brF (c := x6 = 0) rfl rfl rfl c36 ?_
        refine zA_tr (L := [some (zrv x0), some (zI x1), some (zI x2), some (zI x3), some (zI x4), none, none, none]) rfl rfl ?_
        refine zA_push rfl rfl zkk3 ?_
        refine zA_go rfl rfl ?_
        exact zA_tr (L := [some (zrv x0), some (zI x1), some (zI x2), some (zI x3), some (zI x4), none, none, none]) rfl rfl (zmS155_90 _ _ _ _ _ _ _ _ _ _ H)
def zm155_51 (x0 : zq) (x1 : Int32) (x2 : Int32) (x3 : Int32) (x4 : Int32) (s0 : Int32) (h : zH) : zRs Int32 :=
  zm155_56 (zm155_74) zN0 x0 x1 x2 x3 x4 s0 (0 : Int32) (0 : Int32) h
theorem zmS155_51 : ∀ (x0 : zq) (x1 : Int32) (x2 : Int32) (x3 : Int32) (x4 : Int32) (s0 : Int32) (h : zH) (r : Int32 ⊕ Nat) (h' : zH), zm155_51 x0 x1 x2 x3 x4 s0 h = some (r, h') → zAt 155 51 [some (zrv x0), some (zI x1), some (zI x2), some (zI x3), some (zI x4), none, none, none] [zI s0] h (zoI r) h' := by
  intro x0 x1 x2 x3 x4 s0 h r h' H
  unfold zm155_51 at H
  refine zA_ist2 rfl rfl rfl (zset1 (L' := [some (zrv x0), some (zI x1), some (zI x2), some (zI x3), some (zI x4), some (zI s0), none, none]) rfl rfl (zpcV rfl rfl)) ?_
  refine zA_push rfl rfl zkk7 ?_
  refine zA_ist2 rfl rfl rfl (zset1 (L' := [some (zrv x0), some (zI x1), some (zI x2), some (zI x3), some (zI x4), some (zI s0), some (zI (0 : Int32)), none]) rfl rfl (zpcV rfl rfl)) ?_
  refine zA_push rfl rfl zkk7 ?_
  refine zA_ist2 rfl rfl rfl (zset1 (L' := [some (zrv x0), some (zI x1), some (zI x2), some (zI x3), some (zI x4), some (zI s0), some (zI (0 : Int32)), some (zI (0 : Int32))]) rfl rfl (zpcV rfl rfl)) ?_
  exact zA_tr (L := [some (zrv x0), some (zI x1), some (zI x2), some (zI x3), some (zI x4), some (zI s0), some (zI (0 : Int32)), some (zI (0 : Int32))]) rfl rfl (zmS155_56 (zmS155_74) zN0 _ _ _ _ _ _ _ _ _ _ _ H)
def zm155_41 (x0 : zq) (x1 : Int32) (x2 : Int32) (x3 : Int32) (x4 : Int32) (h : zH) : zRs Int32 :=
  if x2 = 0 then
    zb (zm139 x4 (1 : Int32) (100 : Int32) h) fun x23 h22 =>
    if x23 = 0 then
      zm155_51 x0 x1 x2 x3 x4 (0 : Int32) h22
    else
      zm155_51 x0 x1 x2 x3 x4 (1 : Int32) h22
  else
    zm155_51 x0 x1 x2 x3 x4 (1 : Int32) h
theorem zmS155_41 : ∀ (x0 : zq) (x1 : Int32) (x2 : Int32) (x3 : Int32) (x4 : Int32) (h : zH) (r : Int32 ⊕ Nat) (h' : zH), zm155_41 x0 x1 x2 x3 x4 h = some (r, h') → zAt 155 41 [some (zrv x0), some (zI x1), some (zI x2), some (zI x3), some (zI x4), none, none, none] [] h (zoI r) h' := by
  intro x0 x1 x2 x3 x4 h r h' H
  unfold zm155_41 at H
  refine zA_ldn rfl rfl rfl ?_
  rcases zite_e H with ⟨c21, H⟩ | ⟨c21, H⟩
  · refine zA_brF' (c := x2 = 0) rfl rfl rfl c21 ?_
    refine zA_ld rfl rfl rfl ?_
    refine zA_push rfl rfl zkk5 ?_
    refine zA_push rfl rfl zkk29 ?_
    rcases zb_e H with ⟨x23, h22, C, H⟩ | ⟨E, h22, C, H⟩
    · refine zA_callV (as := [zI x4, zI (1 : Int32), zI (100 : Int32)]) (st' := []) rfl rfl rfl rfl rfl (zmE139 _ _ _) rfl (zmS139 C) ?_
      rcases zite_e H with ⟨c24, H⟩ | ⟨c24, H⟩
      · refine zA_brT (c := x23 = 0) rfl rfl rfl c24 ?_
        refine zA_push rfl rfl zkk7 ?_
        exact zA_tr (L := [some (zrv x0), some (zI x1), some (zI x2), some (zI x3), some (zI x4), none, none, none]) rfl rfl (zmS155_51 _ _ _ _ _ _ _ _ _ H)
      · refine zA_brF (c := x23 = 0) rfl rfl rfl c24 ?_
        refine zA_push rfl rfl zkk5 ?_
        refine zA_go rfl rfl ?_
        exact zA_tr (L := [some (zrv x0), some (zI x1), some (zI x2), some (zI x3), some (zI x4), none, none, none]) rfl rfl (zmS155_51 _ _ _ _ _ _ _ _ _ H)
    · cases H
      exact zA_callX (as := [zI x4, zI (1 : Int32), zI (100 : Int32)]) (st' := []) rfl rfl rfl rfl (zmE139 _ _ _) rfl rfl rfl (zmS139 C)
  · refine zA_brT' (c := x2 = 0) rfl rfl rfl c21 ?_
    refine zA_push rfl rfl zkk5 ?_
    refine zA_go rfl rfl ?_
    exact zA_tr (L := [some (zrv x0), some (zI x1), some (zI x2), some (zI x3), some (zI x4), none, none, none]) rfl rfl (zmS155_51 _ _ _ _ _ _ _ _ _ H)
-- 155: ReleaseHouseModel.step(IIII)I
def zm155 (x0 : zq) (x1 : Int32) (x2 : Int32) (x3 : Int32) (x4 : Int32) (h : zH) : zRs Int32 :=
  zob 12 x0 fun p21 i22 =>
  zb (zm139 x1 (0 : Int32) ((zi h p21 i22 25) - (1 : Int32)) h) fun x26 h25 =>
  if x26 = 0 then
    zb (zm138 x0 (1 : Int32) h25) fun x29 h28 =>
    some (.inl x29, h28)
  else
    zb (zm139 x2 (0 : Int32) (6 : Int32) h25) fun x31 h30 =>
    if x31 = 0 then
      zm155_51 x0 x1 x2 x3 x4 (0 : Int32) h30
    else
      if x2 = (1 : Int32) then
        zb (zm139 x3 (0 : Int32) (1000 : Int32) h30) fun x35 h34 =>
        if x35 = 0 then
          zm155_51 x0 x1 x2 x3 x4 (0 : Int32) h34
        else
          zm155_41 x0 x1 x2 x3 x4 h34
      else
        if x2 = (3 : Int32) then
          zb (zm139 x3 (0 : Int32) (5 : Int32) h30) fun x39 h38 =>
          if x39 = 0 then
            zm155_51 x0 x1 x2 x3 x4 (0 : Int32) h38
          else
            zm155_41 x0 x1 x2 x3 x4 h38
        else
          if x2 = (5 : Int32) then
            zm155_41 x0 x1 x2 x3 x4 h30
          else
            zb (zm141 x3 h30) fun x43 h42 =>
            if x43 = 0 then
              zm155_51 x0 x1 x2 x3 x4 (0 : Int32) h42
            else
              zm155_41 x0 x1 x2 x3 x4 h42
theorem zmS155 {x0 : zq} {x1 : Int32} {x2 : Int32} {x3 : Int32} {x4 : Int32} {h : zH} {r : Int32 ⊕ Nat} {h' : zH} (H : zm155 x0 x1 x2 x3 x4 h = some (r, h')) : zAt 155 0 [some (zrv x0), some (zI x1), some (zI x2), some (zI x3), some (zI x4), none, none, none] [] h (zoI r) h' := by
  unfold zm155 at H
  refine zA_ldn rfl rfl rfl ?_
  refine zA_push rfl rfl zkk7 ?_
  refine zA_aldn rfl rfl rfl ?_
  obtain ⟨p21, i22, e23, c24, H⟩ := zob_e H
  refine zA_gf0 rfl rfl (Or.inl rfl) e23 c24 ?_
  refine zA_push rfl rfl zkk5 ?_
  refine zA_st (st' := [zI ((zi h p21 i22 25) - (1 : Int32)), zI (0 : Int32), zI x1]) rfl rfl rfl rfl ?_
  rcases zb_e H with ⟨x26, h25, C, H⟩ | ⟨E, h25, C, H⟩
  · refine zA_callV (as := [zI x1, zI (0 : Int32), zI ((zi h p21 i22 25) - (1 : Int32))]) (st' := []) rfl rfl rfl rfl rfl (zmE139 _ _ _) rfl (zmS139 C) ?_
    rcases zite_e H with ⟨c27, H⟩ | ⟨c27, H⟩
    · refine zA_brF' (c := x26 = 0) rfl rfl rfl c27 ?_
      refine zA_aldn rfl rfl rfl ?_
      refine zA_push rfl rfl zkk5 ?_
      rcases zb_e H with ⟨x29, h28, C, H⟩ | ⟨E, h28, C, H⟩
      · refine zA_callV (as := [zrv x0, zI (1 : Int32)]) (st' := []) rfl rfl rfl (zrcv_Q e23 c24) rfl (zmE138 _ _) rfl (zmS138 C) ?_
        cases H
        exact zA_ret rfl rfl
      · cases H
        exact zA_callX (as := [zrv x0, zI (1 : Int32)]) (st' := []) rfl rfl (zrcv_Q e23 c24) rfl (zmE138 _ _) rfl rfl rfl (zmS138 C)
    · refine zA_brT' (c := x26 = 0) rfl rfl rfl c27 ?_
      refine zA_ldn rfl rfl rfl ?_
      refine zA_push rfl rfl zkk7 ?_
      refine zA_push rfl rfl zkk14 ?_
      rcases zb_e H with ⟨x31, h30, C, H⟩ | ⟨E, h30, C, H⟩
      · refine zA_callV (as := [zI x2, zI (0 : Int32), zI (6 : Int32)]) (st' := []) rfl rfl rfl rfl rfl (zmE139 _ _ _) rfl (zmS139 C) ?_
        rcases zite_e H with ⟨c32, H⟩ | ⟨c32, H⟩
        · refine zA_brT (c := x31 = 0) rfl rfl rfl c32 ?_
          refine zA_push rfl rfl zkk7 ?_
          exact zA_tr (L := [some (zrv x0), some (zI x1), some (zI x2), some (zI x3), some (zI x4), none, none, none]) rfl rfl (zmS155_51 _ _ _ _ _ _ _ _ _ H)
        · refine zA_brF (c := x31 = 0) rfl rfl rfl c32 ?_
          refine zA_ldn rfl rfl rfl ?_
          refine zA_push rfl rfl zkk5 ?_
          rcases zite_e H with ⟨c33, H⟩ | ⟨c33, H⟩
          · refine zA_brF' (c := x2 = (1 : Int32)) rfl rfl rfl c33 ?_
            refine zA_ldn rfl rfl rfl ?_
            refine zA_push rfl rfl zkk7 ?_
            refine zA_push rfl rfl zkk28 ?_
            rcases zb_e H with ⟨x35, h34, C, H⟩ | ⟨E, h34, C, H⟩
            · refine zA_callV (as := [zI x3, zI (0 : Int32), zI (1000 : Int32)]) (st' := []) rfl rfl rfl rfl rfl (zmE139 _ _ _) rfl (zmS139 C) ?_
              rcases zite_e H with ⟨c36, H⟩ | ⟨c36, H⟩
              · refine zA_brT (c := x35 = 0) rfl rfl rfl c36 ?_
                refine zA_push rfl rfl zkk7 ?_
                exact zA_tr (L := [some (zrv x0), some (zI x1), some (zI x2), some (zI x3), some (zI x4), none, none, none]) rfl rfl (zmS155_51 _ _ _ _ _ _ _ _ _ H)
              · refine zA_brF (c := x35 = 0) rfl rfl rfl c36 ?_
                refine zA_go rfl rfl ?_
                exact zA_tr (L := [some (zrv x0), some (zI x1), some (zI x2), some (zI x3), some (zI x4), none, none, none]) rfl rfl (zmS155_41 _ _ _ _ _ _ _ _ H)
            · cases H
              exact zA_callX (as := [zI x3, zI (0 : Int32), zI (1000 : Int32)]) (st' := []) rfl rfl rfl rfl (zmE139 _ _ _) rfl rfl rfl (zmS139 C)
          · refine zA_brT' (c := x2 = (1 : Int32)) rfl rfl rfl c33 ?_
            refine zA_ldn rfl rfl rfl ?_
            refine zA_push rfl rfl zkk3 ?_
            rcases zite_e H with ⟨c37, H⟩ | ⟨c37, H⟩
            · refine zA_brF' (c := x2 = (3 : Int32)) rfl rfl rfl c37 ?_
              refine zA_ldn rfl rfl rfl ?_
              refine zA_push rfl rfl zkk7 ?_
              refine zA_push rfl rfl zkk20 ?_
              rcases zb_e H with ⟨x39, h38, C, H⟩ | ⟨E, h38, C, H⟩
              · refine zA_callV (as := [zI x3, zI (0 : Int32), zI (5 : Int32)]) (st' := []) rfl rfl rfl rfl rfl (zmE139 _ _ _) rfl (zmS139 C) ?_
                rcases zite_e H with ⟨c40, H⟩ | ⟨c40, H⟩
                · refine zA_brT (c := x39 = 0) rfl rfl rfl c40 ?_
                  refine zA_push rfl rfl zkk7 ?_
                  exact zA_tr (L := [some (zrv x0), some (zI x1), some (zI x2), some (zI x3), some (zI x4), none, none, none]) rfl rfl (zmS155_51 _ _ _ _ _ _ _ _ _ H)
                · refine zA_brF (c := x39 = 0) rfl rfl rfl c40 ?_
                  refine zA_go rfl rfl ?_
                  exact zA_tr (L := [some (zrv x0), some (zI x1), some (zI x2), some (zI x3), some (zI x4), none, none, none]) rfl rfl (zmS155_41 _ _ _ _ _ _ _ _ H)
              · cases H
                exact zA_callX (as := [zI x3, zI (0 : Int32), zI (5 : Int32)]) (st' := []) rfl rfl rfl rfl (zmE139 _ _ _) rfl rfl rfl (zmS139 C)
            · refine zA_brT' (c := x2 = (3 : Int32)) rfl rfl rfl c37 ?_
              refine zA_ldn rfl rfl rfl ?_
              refine zA_push rfl rfl zkk20 ?_
              rcases zite_e H with ⟨c41, H⟩ | ⟨c41, H⟩
              · refine zA_brT (c := x2 = (5 : Int32)) rfl rfl rfl c41 ?_
                exact zA_tr (L := [some (zrv x0), some (zI x1), some (zI x2), some (zI x3), some (zI x4), none, none, none]) rfl rfl (zmS155_41 _ _ _ _ _ _ _ _ H)
              · refine zA_brF (c := x2 = (5 : Int32)) rfl rfl rfl c41 ?_
                refine zA_ldn rfl rfl rfl ?_
                rcases zb_e H with ⟨x43, h42, C, H⟩ | ⟨E, h42, C, H⟩
                · refine zA_callV (as := [zI x3]) (st' := []) rfl rfl rfl rfl rfl (zmE141 _) rfl (zmS141 C) ?_
                  rcases zite_e H with ⟨c44, H⟩ | ⟨c44, H⟩
                  · refine zA_brT (c := x43 = 0) rfl rfl rfl c44 ?_
                    refine zA_push rfl rfl zkk7 ?_
                    exact zA_tr (L := [some (zrv x0), some (zI x1), some (zI x2), some (zI x3), some (zI x4), none, none, none]) rfl rfl (zmS155_51 _ _ _ _ _ _ _ _ _ H)
                  · refine zA_brF (c := x43 = 0) rfl rfl rfl c44 ?_
                    exact zA_tr (L := [some (zrv x0), some (zI x1), some (zI x2), some (zI x3), some (zI x4), none, none, none]) rfl rfl (zmS155_41 _ _ _ _ _ _ _ _ H)
                · cases H
                  exact zA_callX (as := [zI x3]) (st' := []) rfl rfl rfl rfl (zmE141 _) rfl rfl rfl (zmS141 C)
      · cases H
        exact zA_callX (as := [zI x2, zI (0 : Int32), zI (6 : Int32)]) (st' := []) rfl rfl rfl rfl (zmE139 _ _ _) rfl rfl rfl (zmS139 C)
  · cases H
    exact zA_callX (as := [zI x1, zI (0 : Int32), zI ((zi h p21 i22 25) - (1 : Int32))]) (st' := []) rfl rfl rfl rfl (zmE139 _ _ _) rfl rfl rfl (zmS139 C)
theorem zmE155 (x0 : zq) (x1 : Int32) (x2 : Int32) (x3 : Int32) (x4 : Int32) : zpad (zPr.2.1 155).1 (zil [zrv x0, zI x1, zI x2, zI x3, zI x4]) = [some (zrv x0), some (zI x1), some (zI x2), some (zI x3), some (zI x4), none, none, none] := by
  simp only [zil_A, zil_I, zil_F, zil_D, zil_N]
  rfl
-- 10: ReleaseHouse$Release.hasEnded()Z
def zm10 (x0 : zq) (h : zH) : zRs Int32 :=
  zob 5 x0 fun p21 i22 =>
  if (zi h p21 i22 2) = 0 then
    some (.inl (0 : Int32), h)
  else
    if (zi h p21 i22 2) = (1 : Int32) then
      some (.inl (0 : Int32), h)
    else
      some (.inl (1 : Int32), h)
theorem zmS10 {x0 : zq} {h : zH} {r : Int32 ⊕ Nat} {h' : zH} (H : zm10 x0 h = some (r, h')) : zAt 10 0 [some (zrv x0)] [] h (zoI r) h' := by
  unfold zm10 at H
  refine zA_aldn rfl rfl rfl ?_
  obtain ⟨p21, i22, e23, c24, H⟩ := zob_e H
  refine zA_gf0 rfl rfl (Or.inl rfl) e23 c24 ?_
  rcases zite_e H with ⟨c25, H⟩ | ⟨c25, H⟩
  · refine zA_brT (c := (zi h p21 i22 2) = 0) rfl rfl rfl c25 ?_
    refine zA_tr (L := [none]) rfl rfl ?_
    refine zA_push rfl rfl zkk7 ?_
    cases H
    exact zA_ret rfl (zret_Z (by decide))
  · refine zA_brF (c := (zi h p21 i22 2) = 0) rfl rfl rfl c25 ?_
    refine zA_aldn rfl rfl rfl ?_
    refine zA_gf0 rfl rfl (Or.inl rfl) e23 c24 ?_
    refine zA_push rfl rfl zkk5 ?_
    rcases zite_e H with ⟨c26, H⟩ | ⟨c26, H⟩
    · refine zA_brT (c := (zi h p21 i22 2) = (1 : Int32)) rfl rfl rfl c26 ?_
      refine zA_tr (L := [none]) rfl rfl ?_
      refine zA_push rfl rfl zkk7 ?_
      cases H
      exact zA_ret rfl (zret_Z (by decide))
    · refine zA_brF (c := (zi h p21 i22 2) = (1 : Int32)) rfl rfl rfl c26 ?_
      refine zA_push rfl rfl zkk5 ?_
      refine zA_go rfl rfl ?_
      refine zA_tr (L := [none]) rfl rfl ?_
      cases H
      exact zA_ret rfl (zret_Z (by decide))
theorem zmE10 (x0 : zq) : zpad (zPr.2.1 10).1 (zil [zrv x0]) = [some (zrv x0)] := by
  simp only [zil_A, zil_I, zil_F, zil_D, zil_N]
  rfl
def zm53_22 (k2 : zq → zq → Int32 → zH → zRs zq) (x0 : zq) (x1 : zq) (x2 : Int32) (h : zH) : zRs zq :=
  zlet (x2 + (1 : Int32)) fun x21 =>
  k2 x0 x1 x21 h
theorem zmS53_22 {k2 : zq → zq → Int32 → zH → zRs zq} (hk2 : ∀ (x0 : zq) (x1 : zq) (x2 : Int32) (h : zH) (r : zq ⊕ Nat) (h' : zH), k2 x0 x1 x2 h = some (r, h') → zAt 53 2 [some (zrv x0), some (zrv x1), some (zI x2), none] [] h (zoA r) h') : ∀ (x0 : zq) (x1 : zq) (x2 : Int32) (h : zH) (r : zq ⊕ Nat) (h' : zH), zm53_22 k2 x0 x1 x2 h = some (r, h') → zAt 53 22 [some (zrv x0), some (zrv x1), some (zI x2), none] [] h (zoA r) h' := by
  intro x0 x1 x2 h r h' H
  unfold zm53_22 at H
  obtain ⟨x21, e22, H⟩ := zlet_e H
  refine zA_inc rfl rfl rfl (e22.trans (congrArg (_ + ·) zkk8)) (zset1 (L' := [some (zrv x0), some (zrv x1), some (zI x21), none]) rfl rfl (zpcV rfl (zcat_rv _))) ?_
  refine zA_go rfl rfl ?_
  exact zA_tr (L := [some (zrv x0), some (zrv x1), some (zI x21), none]) rfl rfl (hk2 _ _ _ _ _ _ H)
def zm53_2 : Nat → zq → zq → Int32 → zH → zRs zq
  | 0, _, _, _, _ => none
  | n + 1, x0, x1, x2, h =>
    zob 11 x0 fun p21 i22 =>
    zlz (zr h p21 i22 2) h fun v30 =>
    if v30 ≤ x2 then
      some (.inl (none : zq), h)
    else
      zlg (zr h p21 i22 2) x2 h fun v39 =>
      zob 5 v39 fun p41 i42 =>
      if (zr h p41 i42 0) = x1 then
        zb (zm10 v39 h) fun x47 h46 =>
        if x47 = 0 then
          some (.inl v39, h46)
        else
          zm53_22 (zm53_2 n) x0 x1 x2 h46
      else
        zm53_22 (zm53_2 n) x0 x1 x2 h
theorem zmS53_2 : ∀ (n : Nat) (x0 : zq) (x1 : zq) (x2 : Int32) (h : zH) (r : zq ⊕ Nat) (h' : zH), zm53_2 n x0 x1 x2 h = some (r, h') → zAt 53 2 [some (zrv x0), some (zrv x1), some (zI x2), none] [] h (zoA r) h' := by
  intro n
  induction n with
  | zero => intro x0 x1 x2 h r h' H; cases H
  | succ n ih =>
    intro x0 x1 x2 h r h' H
    unfold zm53_2 at H
    refine zA_ldn rfl rfl rfl ?_
    refine zA_aldn rfl rfl rfl ?_
    obtain ⟨p21, i22, e23, c24, H⟩ := zob_e H
    refine zA_gf3 rfl rfl e23 c24 ?_
    obtain ⟨p25, i26, v30, e27, c28, c29, e31, H⟩ := zlz_e H
    refine zA_l2 rfl rfl rfl e27 c28 c29 e31 ?_
    rcases zite_e H with ⟨c32, H⟩ | ⟨c32, H⟩
    · refine zA_brT (c := v30 ≤ x2) rfl rfl rfl c32 ?_
      refine zA_tr (L := [none, none, none, none]) rfl rfl ?_
      refine zA_push rfl rfl zkk26 ?_
      cases H
      exact zA_ret rfl (zret_A _)
    · refine zA_brF (c := v30 ≤ x2) rfl rfl rfl c32 ?_
      refine zA_aldn rfl rfl rfl ?_
      refine zA_gf3 rfl rfl e23 c24 ?_
      refine zA_ldn rfl rfl rfl ?_
      obtain ⟨p33, i34, v39, e35, c36, c37, c38, e40, H⟩ := zlg_e H
      refine zA_l3 rfl rfl rfl e35 c36 c37 c38 e40 ?_
      obtain ⟨p41, i42, e43, c44, H⟩ := zob_e H
      refine zA_cast rfl rfl e43 c44 ?_
      refine zA_astn2 rfl rfl rfl (zset1 (L' := [some (zrv x0), some (zrv x1), some (zI x2), some (zrv v39)]) (zcat_rv _) rfl (zpcV rfl rfl)) ?_
      refine zA_aldn rfl rfl rfl ?_
      refine zA_gf3 rfl rfl e43 c44 ?_
      refine zA_aldn rfl rfl rfl ?_
      rcases zite_e H with ⟨c45, H⟩ | ⟨c45, H⟩
      · refine zA_brF' (c := (zr h p41 i42 0) = x1) rfl rfl zIf_ane c45 ?_
        refine zA_aldn rfl rfl rfl ?_
        rcases zb_e H with ⟨x47, h46, C, H⟩ | ⟨E, h46, C, H⟩
        · refine zA_callV (as := [zrv v39]) (st' := []) rfl rfl rfl (zrcv_Q e43 c44) rfl (zmE10 _) rfl (zmS10 C) ?_
          rcases zite_e H with ⟨c48, H⟩ | ⟨c48, H⟩
          · refine zA_brF' (c := x47 = 0) rfl rfl rfl c48 ?_
            refine zA_aldn rfl rfl rfl ?_
            cases H
            exact zA_ret rfl (zret_A _)
          · refine zA_brT' (c := x47 = 0) rfl rfl rfl c48 ?_
            exact zA_tr (L := [some (zrv x0), some (zrv x1), some (zI x2), none]) rfl rfl (zmS53_22 ih _ _ _ _ _ _ H)
        · cases H
          exact zA_callX (as := [zrv v39]) (st' := []) rfl rfl (zrcv_Q e43 c44) rfl (zmE10 _) rfl rfl rfl (zmS10 C)
      · refine zA_brT' (c := (zr h p41 i42 0) = x1) rfl rfl zIf_ane c45 ?_
        exact zA_tr (L := [some (zrv x0), some (zrv x1), some (zI x2), none]) rfl rfl (zmS53_22 ih _ _ _ _ _ _ H)
-- 53: ReleaseHouse.releaseUnderWay(LReleaseHouse$Artefact;)LReleaseHouse$Release;
def zm53 (x0 : zq) (x1 : zq) (h : zH) : zRs zq :=
  zm53_2 zN0 x0 x1 (0 : Int32) h
theorem zmS53 {x0 : zq} {x1 : zq} {h : zH} {r : zq ⊕ Nat} {h' : zH} (H : zm53 x0 x1 h = some (r, h')) : zAt 53 0 [some (zrv x0), some (zrv x1), none, none] [] h (zoA r) h' := by
  unfold zm53 at H
  refine zA_push rfl rfl zkk7 ?_
  refine zA_istn2 rfl rfl rfl (zset1 (L' := [some (zrv x0), some (zrv x1), some (zI (0 : Int32)), none]) rfl rfl (zpcV rfl (zcat_rv _))) ?_
  exact zA_tr (L := [some (zrv x0), some (zrv x1), some (zI (0 : Int32)), none]) rfl rfl (zmS53_2 zN0 _ _ _ _ _ _ H)
theorem zmE53 (x0 : zq) (x1 : zq) : zpad (zPr.2.1 53).1 (zil [zrv x0, zrv x1]) = [some (zrv x0), some (zrv x1), none, none] := by
  simp only [zil_A, zil_I, zil_F, zil_D, zil_N]
  rfl
-- 9: ReleaseHouse$Release.<init>(LReleaseHouse$Artefact;LReleaseHouse$Program;I)V
def zm9 (x0 : zq) (x1 : zq) (x2 : zq) (x3 : Int32) (h : zH) : zRs Unit :=
  znn x0 fun p21 i22 =>
  zob 5 x0 fun p25 i26 =>
  zlet (zsi h p25 i26 2 (0 : Int32)) fun h29 =>
  if (3 : Int32) < 0 ∨ 100000 < (3 : Int32).toNatClampNeg then none else
  zlet (znw h29 25 (3 : Int32).toNatClampNeg (3 : Int32).toNatClampNeg) fun h31 =>
  zlet (zsr h31 p25 i26 9 (some (25, zct h29 25))) fun h33 =>
  if (3 : Int32) < 0 ∨ 100000 < (3 : Int32).toNatClampNeg then none else
  zlet (znw h33 26 (3 : Int32).toNatClampNeg (3 : Int32).toNatClampNeg) fun h35 =>
  zlet (zsr h35 p25 i26 10 (some (26, zct h33 26))) fun h37 =>
  zlet (zsr h37 p25 i26 0 x1) fun h39 =>
  zlet (zsr h39 p25 i26 1 x2) fun h41 =>
  zlet (zsi h41 p25 i26 4 x3) fun h43 =>
  some (.inl (), h43)
theorem zmS9 {x0 : zq} {x1 : zq} {x2 : zq} {x3 : Int32} {h : zH} {r : Unit ⊕ Nat} {h' : zH} (H : zm9 x0 x1 x2 x3 h = some (r, h')) : zAt 9 0 [some (zrv x0), some (zrv x1), some (zrv x2), some (zI x3)] [] h (zoU r) h' := by
  unfold zm9 at H
  refine zA_aldn rfl rfl rfl ?_
  obtain ⟨p21, i22, e23, H⟩ := znn_e H
  refine zA_l0 rfl rfl rfl e23 ?_
  refine zA_aldn rfl rfl rfl ?_
  refine zA_push rfl rfl zkk7 ?_
  obtain ⟨p25, i26, e27, c28, H⟩ := zob_e H
  obtain ⟨h29, e30, H⟩ := zlet_e H
  refine zA_pf0 rfl rfl e27 c28 e30 ?_
  refine zA_aldn rfl rfl rfl ?_
  refine zA_push rfl rfl zkk3 ?_
  rcases zite_e H with ⟨_, H⟩ | ⟨ch31, H⟩
  · cases H
  obtain ⟨h31, e32, H⟩ := zlet_e H
  refine zA_newA rfl rfl (fun _ _ _ _ _ => rfl) ch31 e32 ?_
  obtain ⟨h33, e34, H⟩ := zlet_e H
  refine zA_pf3 rfl rfl e27 c28 e34 ?_
  refine zA_aldn rfl rfl rfl ?_
  refine zA_push rfl rfl zkk3 ?_
  rcases zite_e H with ⟨_, H⟩ | ⟨ch35, H⟩
  · cases H
  obtain ⟨h35, e36, H⟩ := zlet_e H
  refine zA_newA rfl rfl (fun _ _ _ _ _ => rfl) ch35 e36 ?_
  obtain ⟨h37, e38, H⟩ := zlet_e H
  refine zA_pf3 rfl rfl e27 c28 e38 ?_
  refine zA_aldn rfl rfl rfl ?_
  refine zA_aldn rfl rfl rfl ?_
  obtain ⟨h39, e40, H⟩ := zlet_e H
  refine zA_pf3 rfl rfl e27 c28 e40 ?_
  refine zA_aldn rfl rfl rfl ?_
  refine zA_aldn rfl rfl rfl ?_
  obtain ⟨h41, e42, H⟩ := zlet_e H
  refine zA_pf3 rfl rfl e27 c28 e42 ?_
  refine zA_aldn rfl rfl rfl ?_
  refine zA_ldn rfl rfl rfl ?_
  obtain ⟨h43, e44, H⟩ := zlet_e H
  refine zA_pf0 rfl rfl e27 c28 e44 ?_
  cases H
  exact zA_ret rfl rfl
theorem zmE9 (x0 : zq) (x1 : zq) (x2 : zq) (x3 : Int32) : zpad (zPr.2.1 9).1 (zil [zrv x0, zrv x1, zrv x2, zI x3]) = [some (zrv x0), some (zrv x1), some (zrv x2), some (zI x3)] := by
  simp only [zil_A, zil_I, zil_F, zil_D, zil_N]
  rfl
-- 52: ReleaseHouse.release(II)I
def zm52 (x0 : zq) (x1 : Int32) (x2 : Int32) (h : zH) : zRs Int32 :=
  zob 11 x0 fun p21 i22 =>
  zlz (zr h p21 i22 0) h fun v30 =>
  zb (zm130 x1 v30 h) fun _ h32 =>
  zlz (zr h32 p21 i22 1) h32 fun v38 =>
  zb (zm130 x2 v38 h32) fun _ h40 =>
  zlg (zr h40 p21 i22 0) x1 h40 fun v47 =>
  zob 0 v47 fun p49 i50 =>
  zlg (zr h40 p21 i22 1) x2 h40 fun v59 =>
  zob 4 v59 fun p61 i62 =>
  zlz (zr h40 p21 i22 2) h40 fun v70 =>
  if (20 : Int32) ≤ v70 then
    some (.inr 1, zro h40 1 6)
  else
    if (zi h40 p61 i62 3) = 0 then
      some (.inr 1, zro h40 1 6)
    else
      zb (zm53 x0 v47 h40) fun x75 h74 =>
      if x75 = none then
        zlet (zsi h74 p61 i62 4 (1 : Int32)) fun h77 =>
        zlet (znw h77 5 0 11) fun h79 =>
        zob 5 (some (5, zct h77 5)) fun p81 i82 =>
        zb2 (zm9 (some (5, zct h77 5)) v47 v59 (zi h79 p21 i22 11) h79) fun _ h85 =>
        znn (zr h77 p21 i22 2) fun p86 i87 =>
        znn (some (5, zct h77 5)) fun p93 i94 =>
        zif ((ztg p86 == 9 && ztg p93 == 0 && (zkc p93 == zel p86 && zelB h85 p86 i87)) = true) <|
        zif (zi h85 p86 i87 1 = 1 ∧ zln h85 p86 i87 < 33) <|
        zlet (zladd h85 p86 i87 p93 i94) fun h91 =>
        zlz (zr h91 p21 i22 2) h91 fun v101 =>
        some (.inl (v101 - (1 : Int32)), h91)
      else
        some (.inr 1, zro h74 1 6)
theorem zmS52 {x0 : zq} {x1 : Int32} {x2 : Int32} {h : zH} {r : Int32 ⊕ Nat} {h' : zH} (H : zm52 x0 x1 x2 h = some (r, h')) : zAt 52 0 [some (zrv x0), some (zI x1), some (zI x2), none, none] [] h (zoI r) h' := by
  unfold zm52 at H
  refine zA_ldn rfl rfl rfl ?_
  refine zA_aldn rfl rfl rfl ?_
  obtain ⟨p21, i22, e23, c24, H⟩ := zob_e H
  refine zA_gf3 rfl rfl e23 c24 ?_
  obtain ⟨p25, i26, v30, e27, c28, c29, e31, H⟩ := zlz_e H
  refine zA_l2 rfl rfl rfl e27 c28 c29 e31 ?_
  rcases zb_e H with ⟨u105, h32, C, H⟩ | ⟨E, h32, C, H⟩
  · refine zA_callU (as := [zI x1, zI v30]) (st' := []) rfl rfl rfl rfl rfl (zmE130 _ _) rfl (zmS130 C) ?_
    refine zA_ldn rfl rfl rfl ?_
    refine zA_aldn rfl rfl rfl ?_
    refine zA_gf3 rfl rfl e23 c24 ?_
    obtain ⟨p33, i34, v38, e35, c36, c37, e39, H⟩ := zlz_e H
    refine zA_l2 rfl rfl rfl e35 c36 c37 e39 ?_
    rcases zb_e H with ⟨u104, h40, C, H⟩ | ⟨E, h40, C, H⟩
    · refine zA_callU (as := [zI x2, zI v38]) (st' := []) rfl rfl rfl rfl rfl (zmE130 _ _) rfl (zmS130 C) ?_
      refine zA_aldn rfl rfl rfl ?_
      refine zA_gf3 rfl rfl e23 c24 ?_
      refine zA_ldn rfl rfl rfl ?_
      obtain ⟨p41, i42, v47, e43, c44, c45, c46, e48, H⟩ := zlg_e H
      refine zA_l3 rfl rfl rfl e43 c44 c45 c46 e48 ?_
      obtain ⟨p49, i50, e51, c52, H⟩ := zob_e H
      refine zA_cast rfl rfl e51 c52 ?_
      refine zA_astn2 rfl rfl rfl (zset1 (L' := [some (zrv x0), some (zI x1), some (zI x2), some (zrv v47), none]) (zcat_rv _) rfl (zpcV rfl rfl)) ?_
      refine zA_aldn rfl rfl rfl ?_
      refine zA_gf3 rfl rfl e23 c24 ?_
      refine zA_ldn rfl rfl rfl ?_
      obtain ⟨p53, i54, v59, e55, c56, c57, c58, e60, H⟩ := zlg_e H
      refine zA_l3 rfl rfl rfl e55 c56 c57 c58 e60 ?_
      obtain ⟨p61, i62, e63, c64, H⟩ := zob_e H
      refine zA_cast rfl rfl e63 c64 ?_
      refine zA_ast2 rfl rfl rfl (zset1 (L' := [some (zrv x0), some (zI x1), some (zI x2), some (zrv v47), some (zrv v59)]) (zcat_rv _) rfl (zpcV rfl (zcat_rv _))) ?_
      refine zA_aldn rfl rfl rfl ?_
      refine zA_gf3 rfl rfl e23 c24 ?_
      obtain ⟨p65, i66, v70, e67, c68, c69, e71, H⟩ := zlz_e H
      refine zA_l2 rfl rfl rfl e67 c68 c69 e71 ?_
      refine zA_push rfl rfl zkk16 ?_
      rcases zite_e H with ⟨c72, H⟩ | ⟨c72, H⟩
      · refine zA_brT (c := (20 : Int32) ≤ v70) rfl rfl rfl c72 ?_
        refine zA_tr (L := [none, none, none, none, none]) rfl rfl ?_
        cases H
        exact zA_thr rfl rfl
      · refine zA_brF (c := (20 : Int32) ≤ v70) rfl rfl rfl c72 ?_
        refine zA_ald rfl rfl rfl ?_
        refine zA_gf0 rfl rfl (Or.inl rfl) e63 c64 ?_
        rcases zite_e H with ⟨c73, H⟩ | ⟨c73, H⟩
        · refine zA_brT (c := (zi h40 p61 i62 3) = 0) rfl rfl rfl c73 ?_
          refine zA_tr (L := [none, none, none, none, none]) rfl rfl ?_
          cases H
          exact zA_thr rfl rfl
        · refine zA_brF (c := (zi h40 p61 i62 3) = 0) rfl rfl rfl c73 ?_
          refine zA_aldn rfl rfl rfl ?_
          refine zA_aldn rfl rfl rfl ?_
          rcases zb_e H with ⟨x75, h74, C, H⟩ | ⟨E, h74, C, H⟩
          · refine zA_callV (as := [zrv x0, zrv v47]) (st' := []) rfl rfl rfl (zrcv_Q e23 c24) rfl (zmE53 _ _) rfl (zmS53 C) ?_
            rcases zite_e H with ⟨c76, H⟩ | ⟨c76, H⟩
            · refine zA_brT (c := x75 = none) rfl rfl zIf_null c76 ?_
              refine zA_tr (L := [some (zrv x0), none, none, some (zrv v47), some (zrv v59)]) rfl rfl ?_
              refine zA_ald rfl rfl rfl ?_
              refine zA_push rfl rfl zkk5 ?_
              obtain ⟨h77, e78, H⟩ := zlet_e H
              refine zA_pf1 rfl rfl e63 c64 (by decide) e78 ?_
              refine zA_aldn rfl rfl rfl ?_
              refine zA_gf3 rfl rfl e23 c24 ?_
              obtain ⟨h79, e80, H⟩ := zlet_e H
              refine zA_new (n := 11) rfl rfl (fun _ _ _ _ => rfl) e80 ?_
              refine zA_dup rfl rfl (zcat_rv _) ?_
              refine zA_aldn rfl rfl rfl ?_
              refine zA_ald rfl rfl rfl ?_
              refine zA_aldn rfl rfl rfl ?_
              refine zA_gf0 rfl rfl (Or.inl rfl) e23 c24 ?_
              obtain ⟨p81, i82, e83, c84, H⟩ := zob_e H
              obtain ⟨u103, h85, C, H⟩ := zb2_e H
              refine zA_callU (as := [zrv (some (5, zct h77 5)), zrv v47, zrv v59, zI (zi h79 p21 i22 11)]) (st' := [zrv (some (5, zct h77 5)), zrv (zr h77 p21 i22 2)]) rfl rfl rfl (zrcv_Q e83 c84) rfl (zmE9 _ _ _ _) rfl (zmS9 C) ?_
              obtain ⟨p86, i87, e88, H⟩ := znn_e H
              obtain ⟨p93, i94, e95, H⟩ := znn_e H
              obtain ⟨c89, H⟩ := zif_e H
              obtain ⟨c90, H⟩ := zif_e H
              obtain ⟨h91, e92, H⟩ := zlet_e H
              refine zA_l4 rfl rfl rfl e88 e95 c89 c90 e92 ?_
              refine zA_pop rfl rfl rfl ?_
              refine zA_aldn rfl rfl rfl ?_
              refine zA_gf3 rfl rfl e23 c24 ?_
              obtain ⟨p96, i97, v101, e98, c99, c100, e102, H⟩ := zlz_e H
              refine zA_l2 rfl rfl rfl e98 c99 c100 e102 ?_
              refine zA_push rfl rfl zkk5 ?_
              refine zA_st (st' := [zI (v101 - (1 : Int32))]) rfl rfl rfl rfl ?_
              cases H
              exact zA_ret rfl rfl
            · refine zA_brF (c := x75 = none) rfl rfl zIf_null c76 ?_
              refine zA_tr (L := [none, none, none, none, none]) rfl rfl ?_
              cases H
              exact zA_thr rfl rfl
          · cases H
            exact zA_callX (as := [zrv x0, zrv v47]) (st' := []) rfl rfl (zrcv_Q e23 c24) rfl (zmE53 _ _) rfl rfl rfl (zmS53 C)
    · cases H
      exact zA_callX (as := [zI x2, zI v38]) (st' := []) rfl rfl rfl rfl (zmE130 _ _) rfl rfl rfl (zmS130 C)
  · cases H
    exact zA_callX (as := [zI x1, zI v30]) (st' := []) rfl rfl rfl rfl (zmE130 _ _) rfl rfl rfl (zmS130 C)
theorem zmE52 (x0 : zq) (x1 : Int32) (x2 : Int32) : zpad (zPr.2.1 52).1 (zil [zrv x0, zI x1, zI x2]) = [some (zrv x0), some (zI x1), some (zI x2), none, none] := by
  simp only [zil_A, zil_I, zil_F, zil_D, zil_N]
  rfl
-- 247: ReleaseHouseLaw.release(LReleaseHouse;II[J)I
def zm247 (x0 : zq) (x1 : Int32) (x2 : Int32) (x3 : zq) (h : zH) : zRs Int32 :=
  zob 11 x0 fun p21 i22 =>
  zbH [(0, 8, 2, 1), (0, 8, 1, 2)] 5 (zm52 x0 x1 x2 h) fun x26 h25 =>
  zar 3 x3 (0 : Int32) h25 fun p27 i28 j29 =>
  zlet (zsl h25 p27 i28 j29 (x26.toInt64)) fun h34 =>
  some (.inl (0 : Int32), h34)
theorem zmS247 {x0 : zq} {x1 : Int32} {x2 : Int32} {x3 : zq} {h : zH} {r : Int32 ⊕ Nat} {h' : zH} (H : zm247 x0 x1 x2 x3 h = some (r, h')) : zAt 247 0 [some (zrv x0), some (zI x1), some (zI x2), some (zrv x3), none] [] h (zoI r) h' := by
  unfold zm247 at H
  refine zA_aldn rfl rfl rfl ?_
  refine zA_push rfl rfl zkk7 ?_
  refine zA_aldn rfl rfl rfl ?_
  refine zA_ldn rfl rfl rfl ?_
  refine zA_ldn rfl rfl rfl ?_
  obtain ⟨p21, i22, e23, c24, H⟩ := zob_e H
  rcases zbH_e H with ⟨x26, h25, C, H⟩ | ⟨E, h25, c36, C, hc, H⟩
  · refine zA_callV (as := [zrv x0, zI x1, zI x2]) (st' := [zI (0 : Int32), zrv x3]) rfl rfl rfl (zrcv_Q e23 c24) rfl (zmE52 _ _ _) rfl (zmS52 C) ?_
    refine zA_st (st' := [zJ (x26.toInt64), zI (0 : Int32), zrv x3]) rfl rfl rfl rfl ?_
    obtain ⟨p27, i28, j29, e30, c31, c32, e33, H⟩ := zar_e H
    obtain ⟨h34, e35, H⟩ := zlet_e H
    refine zA_las rfl rfl e30 c31 c32 e33 e35 ?_
    refine zA_go rfl rfl ?_
    refine zA_tr (L := [none, none, none, none, none]) rfl rfl ?_
    refine zA_push rfl rfl zkk7 ?_
    cases H
    exact zA_ret rfl rfl
  · cases H
    exact zA_callH (as := [zrv x0, zI x1, zI x2]) (st' := [zI (0 : Int32), zrv x3]) rfl rfl (zrcv_Q e23 c24) rfl (zmE52 _ _ _) rfl rfl rfl (List.cons_ne_nil _ _) hc (zmS52 C)
theorem zmE247 (x0 : zq) (x1 : Int32) (x2 : Int32) (x3 : zq) : zpad (zPr.2.1 247).1 (zil [zrv x0, zI x1, zI x2, zrv x3]) = [some (zrv x0), some (zI x1), some (zI x2), some (zrv x3), none] := by
  simp only [zil_A, zil_I, zil_F, zil_D, zil_N]
  rfl
-- 156: ReleaseHouseModel.hasEnded(I)Z
def zm156 (x0 : zq) (x1 : Int32) (h : zH) : zRs Int32 :=
  zob 12 x0 fun p21 i22 =>
  zri (zr h p21 i22 33) x1 h fun v32 =>
  if v32 ≤ (1 : Int32) then
    some (.inl (0 : Int32), h)
  else
    some (.inl (1 : Int32), h)
theorem zmS156 {x0 : zq} {x1 : Int32} {h : zH} {r : Int32 ⊕ Nat} {h' : zH} (H : zm156 x0 x1 h = some (r, h')) : zAt 156 0 [some (zrv x0), some (zI x1)] [] h (zoI r) h' := by
  unfold zm156 at H
  refine zA_aldn rfl rfl rfl ?_
  obtain ⟨p21, i22, e23, c24, H⟩ := zob_e H
  refine zA_gf3 rfl rfl e23 c24 ?_
  refine zA_ldn rfl rfl rfl ?_
  obtain ⟨p25, i26, j27, v32, e28, c29, c30, e31, e33, H⟩ := zri_e H
  refine zA_ial rfl rfl e28 c29 c30 e31 e33 ?_
  refine zA_push rfl rfl zkk5 ?_
  rcases zite_e H with ⟨c34, H⟩ | ⟨c34, H⟩
  · refine zA_brT (c := v32 ≤ (1 : Int32)) rfl rfl rfl c34 ?_
    refine zA_tr (L := [none, none]) rfl rfl ?_
    refine zA_push rfl rfl zkk7 ?_
    cases H
    exact zA_ret rfl (zret_Z (by decide))
  · refine zA_brF (c := v32 ≤ (1 : Int32)) rfl rfl rfl c34 ?_
    refine zA_push rfl rfl zkk5 ?_
    refine zA_go rfl rfl ?_
    refine zA_tr (L := [none, none]) rfl rfl ?_
    cases H
    exact zA_ret rfl (zret_Z (by decide))
theorem zmE156 (x0 : zq) (x1 : Int32) : zpad (zPr.2.1 156).1 (zil [zrv x0, zI x1]) = [some (zrv x0), some (zI x1)] := by
  simp only [zil_A, zil_I, zil_F, zil_D, zil_N]
  rfl
def zm157_21 (k4 : zq → Int32 → Int32 → Int32 → zH → zRs Int32) (x0 : zq) (x1 : Int32) (x3 : Int32) (s0 : Int32) (h : zH) : zRs Int32 :=
  zlet (x3 + (1 : Int32)) fun x21 =>
  k4 x0 x1 s0 x21 h
theorem zmS157_21 {k4 : zq → Int32 → Int32 → Int32 → zH → zRs Int32} (hk4 : ∀ (x0 : zq) (x1 : Int32) (x2 : Int32) (x3 : Int32) (h : zH) (r : Int32 ⊕ Nat) (h' : zH), k4 x0 x1 x2 x3 h = some (r, h') → zAt 157 4 [some (zrv x0), some (zI x1), some (zI x2), some (zI x3)] [] h (zoI r) h') : ∀ (x0 : zq) (x1 : Int32) (x3 : Int32) (s0 : Int32) (h : zH) (r : Int32 ⊕ Nat) (h' : zH), zm157_21 k4 x0 x1 x3 s0 h = some (r, h') → zAt 157 21 [some (zrv x0), some (zI x1), none, some (zI x3)] [zI s0] h (zoI r) h' := by
  intro x0 x1 x3 s0 h r h' H
  unfold zm157_21 at H
  refine zA_istn2 rfl rfl rfl (zset1 (L' := [some (zrv x0), some (zI x1), some (zI s0), some (zI x3)]) rfl rfl (zpcV rfl rfl)) ?_
  obtain ⟨x21, e22, H⟩ := zlet_e H
  refine zA_inc rfl rfl rfl (e22.trans (congrArg (_ + ·) zkk8)) (zset1 (L' := [some (zrv x0), some (zI x1), some (zI s0), some (zI x21)]) rfl rfl (zpcV rfl rfl)) ?_
  refine zA_go rfl rfl ?_
  exact zA_tr (L := [some (zrv x0), some (zI x1), some (zI s0), some (zI x21)]) rfl rfl (hk4 _ _ _ _ _ _ _ H)
def zm157_4 : Nat → zq → Int32 → Int32 → Int32 → zH → zRs Int32
  | 0, _, _, _, _, _ => none
  | n + 1, x0, x1, x2, x3, h =>
    zob 12 x0 fun p21 i22 =>
    if (zi h p21 i22 30) ≤ x3 then
      some (.inl x2, h)
    else
      zri (zr h p21 i22 31) x3 h fun v33 =>
      if v33 = x1 then
        zb (zm156 x0 x3 h) fun x37 h36 =>
        if x37 = 0 then
          zm157_21 (zm157_4 n) x0 x1 x3 x3 h36
        else
          zm157_21 (zm157_4 n) x0 x1 x3 x2 h36
      else
        zm157_21 (zm157_4 n) x0 x1 x3 x2 h
theorem zmS157_4 : ∀ (n : Nat) (x0 : zq) (x1 : Int32) (x2 : Int32) (x3 : Int32) (h : zH) (r : Int32 ⊕ Nat) (h' : zH), zm157_4 n x0 x1 x2 x3 h = some (r, h') → zAt 157 4 [some (zrv x0), some (zI x1), some (zI x2), some (zI x3)] [] h (zoI r) h' := by
  intro n
  induction n with
  | zero => intro x0 x1 x2 x3 h r h' H; cases H
  | succ n ih =>
    intro x0 x1 x2 x3 h r h' H
    unfold zm157_4 at H
    refine zA_ldn rfl rfl rfl ?_
    refine zA_aldn rfl rfl rfl ?_
    obtain ⟨p21, i22, e23, c24, H⟩ := zob_e H
    refine zA_gf0 rfl rfl (Or.inl rfl) e23 c24 ?_
    rcases zite_e H with ⟨c25, H⟩ | ⟨c25, H⟩
    · refine zA_brT (c := (zi h p21 i22 30) ≤ x3) rfl rfl rfl c25 ?_
      refine zA_tr (L := [none, none, some (zI x2), none]) rfl rfl ?_
      refine zA_ldn rfl rfl rfl ?_
      cases H
      exact zA_ret rfl rfl
    · refine zA_brF (c := (zi h p21 i22 30) ≤ x3) rfl rfl rfl c25 ?_
      refine zA_aldn rfl rfl rfl ?_
      refine zA_gf3 rfl rfl e23 c24 ?_
      refine zA_ldn rfl rfl rfl ?_
      obtain ⟨p26, i27, j28, v33, e29, c30, c31, e32, e34, H⟩ := zri_e H
      refine zA_ial rfl rfl e29 c30 c31 e32 e34 ?_
      refine zA_ldn rfl rfl rfl ?_
      rcases zite_e H with ⟨c35, H⟩ | ⟨c35, H⟩
      · refine zA_brF' (c := v33 = x1) rfl rfl rfl c35 ?_
        refine zA_aldn rfl rfl rfl ?_
        refine zA_ldn rfl rfl rfl ?_
        rcases zb_e H with ⟨x37, h36, C, H⟩ | ⟨E, h36, C, H⟩
        · refine zA_callV (as := [zrv x0, zI x3]) (st' := []) rfl rfl rfl (zrcv_Q e23 c24) rfl (zmE156 _ _) rfl (zmS156 C) ?_
          rcases zite_e H with ⟨c38, H⟩ | ⟨c38, H⟩
          · refine zA_brF' (c := x37 = 0) rfl rfl rfl c38 ?_
            refine zA_ldn rfl rfl rfl ?_
            refine zA_go rfl rfl ?_
            exact zA_tr (L := [some (zrv x0), some (zI x1), none, some (zI x3)]) rfl rfl (zmS157_21 ih _ _ _ _ _ _ _ H)
          · refine zA_brT' (c := x37 = 0) rfl rfl rfl c38 ?_
            refine zA_ldn rfl rfl rfl ?_
            exact zA_tr (L := [some (zrv x0), some (zI x1), none, some (zI x3)]) rfl rfl (zmS157_21 ih _ _ _ _ _ _ _ H)
        · cases H
          exact zA_callX (as := [zrv x0, zI x3]) (st' := []) rfl rfl (zrcv_Q e23 c24) rfl (zmE156 _ _) rfl rfl rfl (zmS156 C)
      · refine zA_brT' (c := v33 = x1) rfl rfl rfl c35 ?_
        refine zA_ldn rfl rfl rfl ?_
        exact zA_tr (L := [some (zrv x0), some (zI x1), none, some (zI x3)]) rfl rfl (zmS157_21 ih _ _ _ _ _ _ _ H)
-- 157: ReleaseHouseModel.releaseOf(I)I
def zm157 (x0 : zq) (x1 : Int32) (h : zH) : zRs Int32 :=
  zm157_4 zN0 x0 x1 (-1 : Int32) (0 : Int32) h
theorem zmS157 {x0 : zq} {x1 : Int32} {h : zH} {r : Int32 ⊕ Nat} {h' : zH} (H : zm157 x0 x1 h = some (r, h')) : zAt 157 0 [some (zrv x0), some (zI x1), none, none] [] h (zoI r) h' := by
  unfold zm157 at H
  refine zA_push rfl rfl zkk6 ?_
  refine zA_istn2 rfl rfl rfl (zset1 (L' := [some (zrv x0), some (zI x1), some (zI (-1 : Int32)), none]) rfl rfl (zpcV rfl rfl)) ?_
  refine zA_push rfl rfl zkk7 ?_
  refine zA_istn2 rfl rfl rfl (zset1 (L' := [some (zrv x0), some (zI x1), some (zI (-1 : Int32)), some (zI (0 : Int32))]) rfl rfl (zpcV rfl rfl)) ?_
  exact zA_tr (L := [some (zrv x0), some (zI x1), some (zI (-1 : Int32)), some (zI (0 : Int32))]) rfl rfl (zmS157_4 zN0 _ _ _ _ _ _ _ H)
theorem zmE157 (x0 : zq) (x1 : Int32) : zpad (zPr.2.1 157).1 (zil [zrv x0, zI x1]) = [some (zrv x0), some (zI x1), none, none] := by
  simp only [zil_A, zil_I, zil_F, zil_D, zil_N]
  rfl
def zm158_32 (x0 : zq) (x1 : Int32) (x2 : Int32) (s0 : zq) (s1 : Int32) (h : zH) : zRs Int32 :=
  zob 12 s0 fun p21 i22 =>
  zlet (zsi h p21 i22 0 s1) fun h25 =>
  zob 12 x0 fun p27 i28 =>
  if (zi h25 p27 i28 0) ≤ 0 then
    zar 1 (zr h25 p27 i28 31) (zi h25 p27 i28 30) h25 fun p32 i33 j34 =>
    zlet (zsi h25 p32 i33 j34 x1) fun h39 =>
    zar 1 (zr h39 p27 i28 32) (zi h39 p27 i28 30) h39 fun p41 i42 j43 =>
    zlet (zsi h39 p41 i42 j43 x2) fun h48 =>
    zar 1 (zr h48 p27 i28 35) (zi h48 p27 i28 30) h48 fun p50 i51 j52 =>
    zlet (zsi h48 p50 i51 j52 (zi h48 p27 i28 1)) fun h57 =>
    zar 1 (zr h57 p27 i28 40) (zi h57 p27 i28 30) h57 fun p59 i60 j61 =>
    zlet (zsi h57 p59 i60 j61 (-1 : Int32)) fun h66 =>
    zlet (zsi h66 p27 i28 30 ((zi h66 p27 i28 30) + (1 : Int32))) fun h68 =>
    some (.inl ((zi h68 p27 i28 30) - (1 : Int32)), h68)
  else
    some (.inl (0 : Int32), h25)
theorem zmS158_32 : ∀ (x0 : zq) (x1 : Int32) (x2 : Int32) (s0 : zq) (s1 : Int32) (h : zH) (r : Int32 ⊕ Nat) (h' : zH), zm158_32 x0 x1 x2 s0 s1 h = some (r, h') → zAt 158 32 [some (zrv x0), some (zI x1), some (zI x2)] [zI s1, zrv s0] h (zoI r) h' := by
  intro x0 x1 x2 s0 s1 h r h' H
  unfold zm158_32 at H
  obtain ⟨p21, i22, e23, c24, H⟩ := zob_e H
  obtain ⟨h25, e26, H⟩ := zlet_e H
  refine zA_pf0 rfl rfl e23 c24 e26 ?_
  refine zA_aldn rfl rfl rfl ?_
  obtain ⟨p27, i28, e29, c30, H⟩ := zob_e H
  refine zA_gf0 rfl rfl (Or.inl rfl) e29 c30 ?_
  rcases zite_e H with ⟨c31, H⟩ | ⟨c31, H⟩
  · refine zA_brT (c := (zi h25 p27 i28 0) ≤ 0) rfl rfl rfl c31 ?_
    refine zA_aldn rfl rfl rfl ?_
    refine zA_gf3 rfl rfl e29 c30 ?_
    refine zA_aldn rfl rfl rfl ?_
    refine zA_gf0 rfl rfl (Or.inl rfl) e29 c30 ?_
    refine zA_ldn rfl rfl rfl ?_
    obtain ⟨p32, i33, j34, e35, c36, c37, e38, H⟩ := zar_e H
    obtain ⟨h39, e40, H⟩ := zlet_e H
    refine zA_ias rfl rfl e35 c36 c37 e38 e40 ?_
    refine zA_aldn rfl rfl rfl ?_
    refine zA_gf3 rfl rfl e29 c30 ?_
    refine zA_aldn rfl rfl rfl ?_
    refine zA_gf0 rfl rfl (Or.inl rfl) e29 c30 ?_
    refine zA_ldn rfl rfl rfl ?_
    obtain ⟨p41, i42, j43, e44, c45, c46, e47, H⟩ := zar_e H
    obtain ⟨h48, e49, H⟩ := zlet_e H
    refine zA_ias rfl rfl e44 c45 c46 e47 e49 ?_
    refine zA_aldn rfl rfl rfl ?_
    refine zA_gf3 rfl rfl e29 c30 ?_
    refine zA_aldn rfl rfl rfl ?_
    refine zA_gf0 rfl rfl (Or.inl rfl) e29 c30 ?_
    refine zA_aldn rfl rfl rfl ?_
    refine zA_gf0 rfl rfl (Or.inl rfl) e29 c30 ?_
    obtain ⟨p50, i51, j52, e53, c54, c55, e56, H⟩ := zar_e H
    obtain ⟨h57, e58, H⟩ := zlet_e H
    refine zA_ias rfl rfl e53 c54 c55 e56 e58 ?_
    refine zA_aldn rfl rfl rfl ?_
    refine zA_gf3 rfl rfl e29 c30 ?_
    refine zA_aldn rfl rfl rfl ?_
    refine zA_gf0 rfl rfl (Or.inl rfl) e29 c30 ?_
    refine zA_push rfl rfl zkk6 ?_
    obtain ⟨p59, i60, j61, e62, c63, c64, e65, H⟩ := zar_e H
    obtain ⟨h66, e67, H⟩ := zlet_e H
    refine zA_ias rfl rfl e62 c63 c64 e65 e67 ?_
    refine zA_aldn rfl rfl rfl ?_
    refine zA_dup rfl rfl (zcat_rv _) ?_
    refine zA_gf0 rfl rfl (Or.inl rfl) e29 c30 ?_
    refine zA_push rfl rfl zkk5 ?_
    refine zA_st (st' := [zI ((zi h66 p27 i28 30) + (1 : Int32)), zrv x0]) rfl rfl rfl rfl ?_
    obtain ⟨h68, e69, H⟩ := zlet_e H
    refine zA_pf0 rfl rfl e29 c30 e69 ?_
    refine zA_aldn rfl rfl rfl ?_
    refine zA_gf0 rfl rfl (Or.inl rfl) e29 c30 ?_
    refine zA_push rfl rfl zkk5 ?_
    refine zA_st (st' := [zI ((zi h68 p27 i28 30) - (1 : Int32))]) rfl rfl rfl rfl ?_
    cases H
    exact zA_ret rfl rfl
  · refine zA_brF (c := (zi h25 p27 i28 0) ≤ 0) rfl rfl rfl c31 ?_
    refine zA_push rfl rfl zkk7 ?_
    cases H
    exact zA_ret rfl rfl
-- 158: ReleaseHouseModel.release(II)I
def zm158 (x0 : zq) (x1 : Int32) (x2 : Int32) (h : zH) : zRs Int32 :=
  zob 12 x0 fun p21 i22 =>
  zb (zm142 x0 x1 h) fun x26 h25 =>
  if x26 = 0 then
    zm158_32 x0 x1 x2 x0 (1 : Int32) h25
  else
    zb (zm139 x2 (0 : Int32) ((zi h25 p21 i22 25) - (1 : Int32)) h25) fun x29 h28 =>
    if x29 = 0 then
      zm158_32 x0 x1 x2 x0 (1 : Int32) h28
    else
      if (zi h28 p21 i22 30) = (20 : Int32) then
        zm158_32 x0 x1 x2 x0 (2 : Int32) h28
      else
        zri (zr h28 p21 i22 26) x2 h28 fun v39 =>
        if v39 = 0 then
          zm158_32 x0 x1 x2 x0 (2 : Int32) h28
        else
          zb (zm157 x0 x1 h28) fun x43 h42 =>
          if x43 = (-1 : Int32) then
            zm158_32 x0 x1 x2 x0 (0 : Int32) h42
          else
            zm158_32 x0 x1 x2 x0 (2 : Int32) h42
theorem zmS158 {x0 : zq} {x1 : Int32} {x2 : Int32} {h : zH} {r : Int32 ⊕ Nat} {h' : zH} (H : zm158 x0 x1 x2 h = some (r, h')) : zAt 158 0 [some (zrv x0), some (zI x1), some (zI x2)] [] h (zoI r) h' := by
  unfold zm158 at H
  refine zA_aldn rfl rfl rfl ?_
  refine zA_aldn rfl rfl rfl ?_
  refine zA_ldn rfl rfl rfl ?_
  obtain ⟨p21, i22, e23, c24, H⟩ := zob_e H
  rcases zb_e H with ⟨x26, h25, C, H⟩ | ⟨E, h25, C, H⟩
  · refine zA_callV (as := [zrv x0, zI x1]) (st' := [zrv x0]) rfl rfl rfl (zrcv_Q e23 c24) rfl (zmE142 _ _) rfl (zmS142 C) ?_
    rcases zite_e H with ⟨c27, H⟩ | ⟨c27, H⟩
    · refine zA_brT (c := x26 = 0) rfl rfl rfl c27 ?_
      refine zA_push rfl rfl zkk5 ?_
      refine zA_go rfl rfl ?_
      exact zA_tr (L := [some (zrv x0), some (zI x1), some (zI x2)]) rfl rfl (zmS158_32 _ _ _ _ _ _ _ _ H)
    · refine zA_brF (c := x26 = 0) rfl rfl rfl c27 ?_
      refine zA_ldn rfl rfl rfl ?_
      refine zA_push rfl rfl zkk7 ?_
      refine zA_aldn rfl rfl rfl ?_
      refine zA_gf0 rfl rfl (Or.inl rfl) e23 c24 ?_
      refine zA_push rfl rfl zkk5 ?_
      refine zA_st (st' := [zI ((zi h25 p21 i22 25) - (1 : Int32)), zI (0 : Int32), zI x2, zrv x0]) rfl rfl rfl rfl ?_
      rcases zb_e H with ⟨x29, h28, C, H⟩ | ⟨E, h28, C, H⟩
      · refine zA_callV (as := [zI x2, zI (0 : Int32), zI ((zi h25 p21 i22 25) - (1 : Int32))]) (st' := [zrv x0]) rfl rfl rfl rfl rfl (zmE139 _ _ _) rfl (zmS139 C) ?_
        rcases zite_e H with ⟨c30, H⟩ | ⟨c30, H⟩
        · refine zA_brF' (c := x29 = 0) rfl rfl rfl c30 ?_
          refine zA_push rfl rfl zkk5 ?_
          refine zA_go rfl rfl ?_
          exact zA_tr (L := [some (zrv x0), some (zI x1), some (zI x2)]) rfl rfl (zmS158_32 _ _ _ _ _ _ _ _ H)
        · refine zA_brT' (c := x29 = 0) rfl rfl rfl c30 ?_
          refine zA_aldn rfl rfl rfl ?_
          refine zA_gf0 rfl rfl (Or.inl rfl) e23 c24 ?_
          refine zA_push rfl rfl zkk16 ?_
          rcases zite_e H with ⟨c31, H⟩ | ⟨c31, H⟩
          · refine zA_brT (c := (zi h28 p21 i22 30) = (20 : Int32)) rfl rfl rfl c31 ?_
            refine zA_push rfl rfl zkk23 ?_
            refine zA_go rfl rfl ?_
            exact zA_tr (L := [some (zrv x0), some (zI x1), some (zI x2)]) rfl rfl (zmS158_32 _ _ _ _ _ _ _ _ H)
          · refine zA_brF (c := (zi h28 p21 i22 30) = (20 : Int32)) rfl rfl rfl c31 ?_
            refine zA_aldn rfl rfl rfl ?_
            refine zA_gf3 rfl rfl e23 c24 ?_
            refine zA_ldn rfl rfl rfl ?_
            obtain ⟨p32, i33, j34, v39, e35, c36, c37, e38, e40, H⟩ := zri_e H
            refine zA_ial rfl rfl e35 c36 c37 e38 e40 ?_
            rcases zite_e H with ⟨c41, H⟩ | ⟨c41, H⟩
            · refine zA_brT (c := v39 = 0) rfl rfl rfl c41 ?_
              refine zA_push rfl rfl zkk23 ?_
              refine zA_go rfl rfl ?_
              exact zA_tr (L := [some (zrv x0), some (zI x1), some (zI x2)]) rfl rfl (zmS158_32 _ _ _ _ _ _ _ _ H)
            · refine zA_brF (c := v39 = 0) rfl rfl rfl c41 ?_
              refine zA_aldn rfl rfl rfl ?_
              refine zA_ldn rfl rfl rfl ?_
              rcases zb_e H with ⟨x43, h42, C, H⟩ | ⟨E, h42, C, H⟩
              · refine zA_callV (as := [zrv x0, zI x1]) (st' := [zrv x0]) rfl rfl rfl (zrcv_Q e23 c24) rfl (zmE157 _ _) rfl (zmS157 C) ?_
                refine zA_push rfl rfl zkk6 ?_
                rcases zite_e H with ⟨c44, H⟩ | ⟨c44, H⟩
                · refine zA_brT (c := x43 = (-1 : Int32)) rfl rfl rfl c44 ?_
                  refine zA_push rfl rfl zkk7 ?_
                  exact zA_tr (L := [some (zrv x0), some (zI x1), some (zI x2)]) rfl rfl (zmS158_32 _ _ _ _ _ _ _ _ H)
                · refine zA_brF (c := x43 = (-1 : Int32)) rfl rfl rfl c44 ?_
                  refine zA_push rfl rfl zkk23 ?_
                  refine zA_go rfl rfl ?_
                  exact zA_tr (L := [some (zrv x0), some (zI x1), some (zI x2)]) rfl rfl (zmS158_32 _ _ _ _ _ _ _ _ H)
              · cases H
                exact zA_callX (as := [zrv x0, zI x1]) (st' := [zrv x0]) rfl rfl (zrcv_Q e23 c24) rfl (zmE157 _ _) rfl rfl rfl (zmS157 C)
      · cases H
        exact zA_callX (as := [zI x2, zI (0 : Int32), zI ((zi h25 p21 i22 25) - (1 : Int32))]) (st' := [zrv x0]) rfl rfl rfl rfl (zmE139 _ _ _) rfl rfl rfl (zmS139 C)
  · cases H
    exact zA_callX (as := [zrv x0, zI x1]) (st' := [zrv x0]) rfl rfl (zrcv_Q e23 c24) rfl (zmE142 _ _) rfl rfl rfl (zmS142 C)
theorem zmE158 (x0 : zq) (x1 : Int32) (x2 : Int32) : zpad (zPr.2.1 158).1 (zil [zrv x0, zI x1, zI x2]) = [some (zrv x0), some (zI x1), some (zI x2)] := by
  simp only [zil_A, zil_I, zil_F, zil_D, zil_N]
  rfl
-- 292: java/lang/Integer.bitCount(I)I
def zm292 (x0 : Int32) (h : zH) : zRs Int32 :=
  zlet (x0 - (((x0.toUInt32 >>> ((1 : Int32).toUInt32 &&& Int32.toUInt32 31)).toInt32) &&& (1431655765 : Int32))) fun x21 =>
  zlet ((x21 &&& (858993459 : Int32)) + (((x21.toUInt32 >>> ((2 : Int32).toUInt32 &&& Int32.toUInt32 31)).toInt32) &&& (858993459 : Int32))) fun x23 =>
  zlet ((x23 + ((x23.toUInt32 >>> ((4 : Int32).toUInt32 &&& Int32.toUInt32 31)).toInt32)) &&& (252645135 : Int32)) fun x25 =>
  zlet (x25 + ((x25.toUInt32 >>> ((8 : Int32).toUInt32 &&& Int32.toUInt32 31)).toInt32)) fun x27 =>
  zlet (x27 + ((x27.toUInt32 >>> ((16 : Int32).toUInt32 &&& Int32.toUInt32 31)).toInt32)) fun x29 =>
  some (.inl (x29 &&& (63 : Int32)), h)
theorem zmS292 {x0 : Int32} {h : zH} {r : Int32 ⊕ Nat} {h' : zH} (H : zm292 x0 h = some (r, h')) : zAt 292 0 [some (zI x0)] [] h (zoI r) h' := by
  unfold zm292 at H
  refine zA_ldn rfl rfl rfl ?_
  refine zA_ldn rfl rfl rfl ?_
  refine zA_push rfl rfl zkk5 ?_
  refine zA_st (st' := [zI ((x0.toUInt32 >>> ((1 : Int32).toUInt32 &&& Int32.toUInt32 31)).toInt32), zI x0]) rfl rfl rfl rfl ?_
  refine zA_push rfl rfl zkk30 ?_
  refine zA_st (st' := [zI (((x0.toUInt32 >>> ((1 : Int32).toUInt32 &&& Int32.toUInt32 31)).toInt32) &&& (1431655765 : Int32)), zI x0]) rfl rfl rfl rfl ?_
  refine zA_st (st' := [zI (x0 - (((x0.toUInt32 >>> ((1 : Int32).toUInt32 &&& Int32.toUInt32 31)).toInt32) &&& (1431655765 : Int32)))]) rfl rfl rfl rfl ?_
  obtain ⟨x21, e22, H⟩ := zlet_e H
  refine zA_istn2 rfl rfl e22 (zset1 (L' := [some (zI x21)]) rfl rfl zpc0) ?_
  refine zA_ldn rfl rfl rfl ?_
  refine zA_push rfl rfl zkk31 ?_
  refine zA_st (st' := [zI (x21 &&& (858993459 : Int32))]) rfl rfl rfl rfl ?_
  refine zA_ldn rfl rfl rfl ?_
  refine zA_push rfl rfl zkk23 ?_
  refine zA_st (st' := [zI ((x21.toUInt32 >>> ((2 : Int32).toUInt32 &&& Int32.toUInt32 31)).toInt32), zI (x21 &&& (858993459 : Int32))]) rfl rfl rfl rfl ?_
  refine zA_push rfl rfl zkk31 ?_
  refine zA_st (st' := [zI (((x21.toUInt32 >>> ((2 : Int32).toUInt32 &&& Int32.toUInt32 31)).toInt32) &&& (858993459 : Int32)), zI (x21 &&& (858993459 : Int32))]) rfl rfl rfl rfl ?_
  refine zA_st (st' := [zI ((x21 &&& (858993459 : Int32)) + (((x21.toUInt32 >>> ((2 : Int32).toUInt32 &&& Int32.toUInt32 31)).toInt32) &&& (858993459 : Int32)))]) rfl rfl rfl rfl ?_
  obtain ⟨x23, e24, H⟩ := zlet_e H
  refine zA_istn2 rfl rfl e24 (zset1 (L' := [some (zI x23)]) rfl rfl zpc0) ?_
  refine zA_ldn rfl rfl rfl ?_
  refine zA_ldn rfl rfl rfl ?_
  refine zA_push rfl rfl zkk9 ?_
  refine zA_st (st' := [zI ((x23.toUInt32 >>> ((4 : Int32).toUInt32 &&& Int32.toUInt32 31)).toInt32), zI x23]) rfl rfl rfl rfl ?_
  refine zA_st (st' := [zI (x23 + ((x23.toUInt32 >>> ((4 : Int32).toUInt32 &&& Int32.toUInt32 31)).toInt32))]) rfl rfl rfl rfl ?_
  refine zA_push rfl rfl zkk32 ?_
  refine zA_st (st' := [zI ((x23 + ((x23.toUInt32 >>> ((4 : Int32).toUInt32 &&& Int32.toUInt32 31)).toInt32)) &&& (252645135 : Int32))]) rfl rfl rfl rfl ?_
  obtain ⟨x25, e26, H⟩ := zlet_e H
  refine zA_istn2 rfl rfl e26 (zset1 (L' := [some (zI x25)]) rfl rfl zpc0) ?_
  refine zA_ldn rfl rfl rfl ?_
  refine zA_ldn rfl rfl rfl ?_
  refine zA_push rfl rfl zkk0 ?_
  refine zA_st (st' := [zI ((x25.toUInt32 >>> ((8 : Int32).toUInt32 &&& Int32.toUInt32 31)).toInt32), zI x25]) rfl rfl rfl rfl ?_
  refine zA_st (st' := [zI (x25 + ((x25.toUInt32 >>> ((8 : Int32).toUInt32 &&& Int32.toUInt32 31)).toInt32))]) rfl rfl rfl rfl ?_
  obtain ⟨x27, e28, H⟩ := zlet_e H
  refine zA_istn2 rfl rfl e28 (zset1 (L' := [some (zI x27)]) rfl rfl zpc0) ?_
  refine zA_ldn rfl rfl rfl ?_
  refine zA_ldn rfl rfl rfl ?_
  refine zA_push rfl rfl zkk33 ?_
  refine zA_st (st' := [zI ((x27.toUInt32 >>> ((16 : Int32).toUInt32 &&& Int32.toUInt32 31)).toInt32), zI x27]) rfl rfl rfl rfl ?_
  refine zA_st (st' := [zI (x27 + ((x27.toUInt32 >>> ((16 : Int32).toUInt32 &&& Int32.toUInt32 31)).toInt32))]) rfl rfl rfl rfl ?_
  obtain ⟨x29, e30, H⟩ := zlet_e H
  refine zA_istn2 rfl rfl e30 (zset1 (L' := [some (zI x29)]) rfl rfl zpc0) ?_
  refine zA_ldn rfl rfl rfl ?_
  refine zA_push rfl rfl zkk34 ?_
  refine zA_st (st' := [zI (x29 &&& (63 : Int32))]) rfl rfl rfl rfl ?_
  cases H
  exact zA_ret rfl rfl
theorem zmE292 (x0 : Int32) : zpad (zPr.2.1 292).1 (zil [zI x0]) = [some (zI x0)] := by
  simp only [zil_A, zil_I, zil_F, zil_D, zil_N]
  rfl
-- 54: ReleaseHouse.approve(II)I
def zm54 (x0 : zq) (x1 : Int32) (x2 : Int32) (h : zH) : zRs Int32 :=
  zob 11 x0 fun p21 i22 =>
  zlz (zr h p21 i22 2) h fun v30 =>
  zb (zm130 x1 v30 h) fun _ h32 =>
  zb (zm131 x2 (0 : Int32) (5 : Int32) h32) fun _ h33 =>
  zlg (zr h33 p21 i22 2) x1 h33 fun v40 =>
  zob 5 v40 fun p42 i43 =>
  zob 0 (zr h33 p42 i43 0) fun p46 i47 =>
  if (zi h33 p46 i47 2) = x2 then
    some (.inr 1, zro h33 1 6)
  else
    zb (zm133 (zi h33 p42 i43 5) x2 h33) fun x52 h51 =>
    if x52 = 0 then
      zb (zm10 v40 h51) fun x55 h54 =>
      if x55 = 0 then
        zlet (zsi h54 p42 i43 5 ((zi h54 p42 i43 5) ||| ((1 : Int32) <<< (x2 &&& 31)))) fun h57 =>
        zb (zm292 (zi h57 p42 i43 5) h57) fun x60 h59 =>
        some (.inl x60, h59)
      else
        some (.inr 1, zro h54 1 6)
    else
      some (.inr 1, zro h51 1 6)
theorem zmS54 {x0 : zq} {x1 : Int32} {x2 : Int32} {h : zH} {r : Int32 ⊕ Nat} {h' : zH} (H : zm54 x0 x1 x2 h = some (r, h')) : zAt 54 0 [some (zrv x0), some (zI x1), some (zI x2), none] [] h (zoI r) h' := by
  unfold zm54 at H
  refine zA_ldn rfl rfl rfl ?_
  refine zA_aldn rfl rfl rfl ?_
  obtain ⟨p21, i22, e23, c24, H⟩ := zob_e H
  refine zA_gf3 rfl rfl e23 c24 ?_
  obtain ⟨p25, i26, v30, e27, c28, c29, e31, H⟩ := zlz_e H
  refine zA_l2 rfl rfl rfl e27 c28 c29 e31 ?_
  rcases zb_e H with ⟨u62, h32, C, H⟩ | ⟨E, h32, C, H⟩
  · refine zA_callU (as := [zI x1, zI v30]) (st' := []) rfl rfl rfl rfl rfl (zmE130 _ _) rfl (zmS130 C) ?_
    refine zA_ldn rfl rfl rfl ?_
    refine zA_push rfl rfl zkk7 ?_
    refine zA_push rfl rfl zkk20 ?_
    rcases zb_e H with ⟨u61, h33, C, H⟩ | ⟨E, h33, C, H⟩
    · refine zA_callU (as := [zI x2, zI (0 : Int32), zI (5 : Int32)]) (st' := []) rfl rfl rfl rfl rfl (zmE131 _ _ _) rfl (zmS131 C) ?_
      refine zA_aldn rfl rfl rfl ?_
      refine zA_gf3 rfl rfl e23 c24 ?_
      refine zA_ldn rfl rfl rfl ?_
      obtain ⟨p34, i35, v40, e36, c37, c38, c39, e41, H⟩ := zlg_e H
      refine zA_l3 rfl rfl rfl e36 c37 c38 c39 e41 ?_
      obtain ⟨p42, i43, e44, c45, H⟩ := zob_e H
      refine zA_cast rfl rfl e44 c45 ?_
      refine zA_astn2 rfl rfl rfl (zset1 (L' := [some (zrv x0), some (zI x1), some (zI x2), some (zrv v40)]) (zcat_rv _) rfl (zpcV rfl rfl)) ?_
      refine zA_aldn rfl rfl rfl ?_
      refine zA_gf3 rfl rfl e44 c45 ?_
      obtain ⟨p46, i47, e48, c49, H⟩ := zob_e H
      refine zA_gf0 rfl rfl (Or.inl rfl) e48 c49 ?_
      refine zA_ldn rfl rfl rfl ?_
      rcases zite_e H with ⟨c50, H⟩ | ⟨c50, H⟩
      · refine zA_brT (c := (zi h33 p46 i47 2) = x2) rfl rfl rfl c50 ?_
        refine zA_tr (L := [none, none, none, none]) rfl rfl ?_
        cases H
        exact zA_thr rfl rfl
      · refine zA_brF (c := (zi h33 p46 i47 2) = x2) rfl rfl rfl c50 ?_
        refine zA_aldn rfl rfl rfl ?_
        refine zA_gf0 rfl rfl (Or.inl rfl) e44 c45 ?_
        refine zA_ldn rfl rfl rfl ?_
        rcases zb_e H with ⟨x52, h51, C, H⟩ | ⟨E, h51, C, H⟩
        · refine zA_callV (as := [zI (zi h33 p42 i43 5), zI x2]) (st' := []) rfl rfl rfl rfl rfl (zmE133 _ _) rfl (zmS133 C) ?_
          rcases zite_e H with ⟨c53, H⟩ | ⟨c53, H⟩
          · refine zA_brF' (c := x52 = 0) rfl rfl rfl c53 ?_
            refine zA_aldn rfl rfl rfl ?_
            rcases zb_e H with ⟨x55, h54, C, H⟩ | ⟨E, h54, C, H⟩
            · refine zA_callV (as := [zrv v40]) (st' := []) rfl rfl rfl (zrcv_Q e44 c45) rfl (zmE10 _) rfl (zmS10 C) ?_
              rcases zite_e H with ⟨c56, H⟩ | ⟨c56, H⟩
              · refine zA_brT (c := x55 = 0) rfl rfl rfl c56 ?_
                refine zA_tr (L := [none, none, some (zI x2), some (zrv v40)]) rfl rfl ?_
                refine zA_aldn rfl rfl rfl ?_
                refine zA_dup rfl rfl (zcat_rv _) ?_
                refine zA_gf0 rfl rfl (Or.inl rfl) e44 c45 ?_
                refine zA_push rfl rfl zkk5 ?_
                refine zA_ldn rfl rfl rfl ?_
                refine zA_st (st' := [zI ((1 : Int32) <<< (x2 &&& 31)), zI (zi h54 p42 i43 5), zrv v40]) rfl rfl rfl rfl ?_
                refine zA_st (st' := [zI ((zi h54 p42 i43 5) ||| ((1 : Int32) <<< (x2 &&& 31))), zrv v40]) rfl rfl rfl rfl ?_
                obtain ⟨h57, e58, H⟩ := zlet_e H
                refine zA_pf0 rfl rfl e44 c45 e58 ?_
                refine zA_aldn rfl rfl rfl ?_
                refine zA_gf0 rfl rfl (Or.inl rfl) e44 c45 ?_
                rcases zb_e H with ⟨x60, h59, C, H⟩ | ⟨E, h59, C, H⟩
                · refine zA_callV (as := [zI (zi h57 p42 i43 5)]) (st' := []) rfl rfl rfl rfl rfl (zmE292 _) rfl (zmS292 C) ?_
                  cases H
                  exact zA_ret rfl rfl
                · cases H
                  exact zA_callX (as := [zI (zi h57 p42 i43 5)]) (st' := []) rfl rfl rfl rfl (zmE292 _) rfl rfl rfl (zmS292 C)
              · refine zA_brF (c := x55 = 0) rfl rfl rfl c56 ?_
                refine zA_tr (L := [none, none, none, none]) rfl rfl ?_
                cases H
                exact zA_thr rfl rfl
            · cases H
              exact zA_callX (as := [zrv v40]) (st' := []) rfl rfl (zrcv_Q e44 c45) rfl (zmE10 _) rfl rfl rfl (zmS10 C)
          · refine zA_brT' (c := x52 = 0) rfl rfl rfl c53 ?_
            refine zA_tr (L := [none, none, none, none]) rfl rfl ?_
            cases H
            exact zA_thr rfl rfl
        · cases H
          exact zA_callX (as := [zI (zi h33 p42 i43 5), zI x2]) (st' := []) rfl rfl rfl rfl (zmE133 _ _) rfl rfl rfl (zmS133 C)
    · cases H
      exact zA_callX (as := [zI x2, zI (0 : Int32), zI (5 : Int32)]) (st' := []) rfl rfl rfl rfl (zmE131 _ _ _) rfl rfl rfl (zmS131 C)
  · cases H
    exact zA_callX (as := [zI x1, zI v30]) (st' := []) rfl rfl rfl rfl (zmE130 _ _) rfl rfl rfl (zmS130 C)
theorem zmE54 (x0 : zq) (x1 : Int32) (x2 : Int32) : zpad (zPr.2.1 54).1 (zil [zrv x0, zI x1, zI x2]) = [some (zrv x0), some (zI x1), some (zI x2), none] := by
  simp only [zil_A, zil_I, zil_F, zil_D, zil_N]
  rfl
-- 248: ReleaseHouseLaw.approve(LReleaseHouse;II[J)I
def zm248 (x0 : zq) (x1 : Int32) (x2 : Int32) (x3 : zq) (h : zH) : zRs Int32 :=
  zob 11 x0 fun p21 i22 =>
  zbH [(0, 8, 2, 1), (0, 8, 0, 2), (0, 8, 1, 3)] 5 (zm54 x0 x1 x2 h) fun x26 h25 =>
  zar 3 x3 (0 : Int32) h25 fun p27 i28 j29 =>
  zlet (zsl h25 p27 i28 j29 (x26.toInt64)) fun h34 =>
  some (.inl (0 : Int32), h34)
theorem zmS248 {x0 : zq} {x1 : Int32} {x2 : Int32} {x3 : zq} {h : zH} {r : Int32 ⊕ Nat} {h' : zH} (H : zm248 x0 x1 x2 x3 h = some (r, h')) : zAt 248 0 [some (zrv x0), some (zI x1), some (zI x2), some (zrv x3), none] [] h (zoI r) h' := by
  unfold zm248 at H
  refine zA_aldn rfl rfl rfl ?_
  refine zA_push rfl rfl zkk7 ?_
  refine zA_aldn rfl rfl rfl ?_
  refine zA_ldn rfl rfl rfl ?_
  refine zA_ldn rfl rfl rfl ?_
  obtain ⟨p21, i22, e23, c24, H⟩ := zob_e H
  rcases zbH_e H with ⟨x26, h25, C, H⟩ | ⟨E, h25, c36, C, hc, H⟩
  · refine zA_callV (as := [zrv x0, zI x1, zI x2]) (st' := [zI (0 : Int32), zrv x3]) rfl rfl rfl (zrcv_Q e23 c24) rfl (zmE54 _ _ _) rfl (zmS54 C) ?_
    refine zA_st (st' := [zJ (x26.toInt64), zI (0 : Int32), zrv x3]) rfl rfl rfl rfl ?_
    obtain ⟨p27, i28, j29, e30, c31, c32, e33, H⟩ := zar_e H
    obtain ⟨h34, e35, H⟩ := zlet_e H
    refine zA_las rfl rfl e30 c31 c32 e33 e35 ?_
    refine zA_go rfl rfl ?_
    refine zA_tr (L := [none, none, none, none, none]) rfl rfl ?_
    refine zA_push rfl rfl zkk7 ?_
    cases H
    exact zA_ret rfl rfl
  · cases H
    exact zA_callH (as := [zrv x0, zI x1, zI x2]) (st' := [zI (0 : Int32), zrv x3]) rfl rfl (zrcv_Q e23 c24) rfl (zmE54 _ _ _) rfl rfl rfl (List.cons_ne_nil _ _) hc (zmS54 C)
theorem zmE248 (x0 : zq) (x1 : Int32) (x2 : Int32) (x3 : zq) : zpad (zPr.2.1 248).1 (zil [zrv x0, zI x1, zI x2, zrv x3]) = [some (zrv x0), some (zI x1), some (zI x2), some (zrv x3), none] := by
  simp only [zil_A, zil_I, zil_F, zil_D, zil_N]
  rfl
-- 143: ReleaseHouseModel.isRelease(I)Z
def zm143 (x0 : zq) (x1 : Int32) (h : zH) : zRs Int32 :=
  zob 12 x0 fun p21 i22 =>
  zb (zm139 x1 (0 : Int32) ((zi h p21 i22 30) - (1 : Int32)) h) fun x26 h25 =>
  zif (x26 = 0 ∨ x26 = 1) <|
  some (.inl x26, h25)
theorem zmS143 {x0 : zq} {x1 : Int32} {h : zH} {r : Int32 ⊕ Nat} {h' : zH} (H : zm143 x0 x1 h = some (r, h')) : zAt 143 0 [some (zrv x0), some (zI x1)] [] h (zoI r) h' := by
  unfold zm143 at H
  refine zA_ldn rfl rfl rfl ?_
  refine zA_push rfl rfl zkk7 ?_
  refine zA_aldn rfl rfl rfl ?_
  obtain ⟨p21, i22, e23, c24, H⟩ := zob_e H
  refine zA_gf0 rfl rfl (Or.inl rfl) e23 c24 ?_
  refine zA_push rfl rfl zkk5 ?_
  refine zA_st (st' := [zI ((zi h p21 i22 30) - (1 : Int32)), zI (0 : Int32), zI x1]) rfl rfl rfl rfl ?_
  rcases zb_e H with ⟨x26, h25, C, H⟩ | ⟨E, h25, C, H⟩
  · refine zA_callV (as := [zI x1, zI (0 : Int32), zI ((zi h p21 i22 30) - (1 : Int32))]) (st' := []) rfl rfl rfl rfl rfl (zmE139 _ _ _) rfl (zmS139 C) ?_
    obtain ⟨c27, H⟩ := zif_e H
    cases H
    exact zA_ret rfl (zret_Z c27)
  · cases H
    exact zA_callX (as := [zI x1, zI (0 : Int32), zI ((zi h p21 i22 30) - (1 : Int32))]) (st' := []) rfl rfl rfl rfl (zmE139 _ _ _) rfl rfl rfl (zmS139 C)
theorem zmE143 (x0 : zq) (x1 : Int32) : zpad (zPr.2.1 143).1 (zil [zrv x0, zI x1]) = [some (zrv x0), some (zI x1)] := by
  simp only [zil_A, zil_I, zil_F, zil_D, zil_N]
  rfl
def zm159_4 : Nat → Int32 → Int32 → Int32 → zH → zRs Int32
  | 0, _, _, _, _ => none
  | n + 1, x0, x1, x2, h =>
    if (8 : Int32) ≤ x2 then
      some (.inl x1, h)
    else
      zlet (x1 + ((x0 >>> (x2 &&& 31)) &&& (1 : Int32))) fun x22 =>
      zlet (x2 + (1 : Int32)) fun x24 =>
      zm159_4 n x0 x22 x24 h
theorem zmS159_4 : ∀ (n : Nat) (x0 : Int32) (x1 : Int32) (x2 : Int32) (h : zH) (r : Int32 ⊕ Nat) (h' : zH), zm159_4 n x0 x1 x2 h = some (r, h') → zAt 159 4 [some (zI x0), some (zI x1), some (zI x2)] [] h (zoI r) h' := by
  intro n
  induction n with
  | zero => intro x0 x1 x2 h r h' H; cases H
  | succ n ih =>
    intro x0 x1 x2 h r h' H
    unfold zm159_4 at H
    refine zA_ldn rfl rfl rfl ?_
    refine zA_push rfl rfl zkk0 ?_
    rcases zite_e H with ⟨c21, H⟩ | ⟨c21, H⟩
    · refine zA_brT (c := (8 : Int32) ≤ x2) rfl rfl rfl c21 ?_
      refine zA_tr (L := [none, some (zI x1), none]) rfl rfl ?_
      refine zA_ldn rfl rfl rfl ?_
      cases H
      exact zA_ret rfl rfl
    · refine zA_brF (c := (8 : Int32) ≤ x2) rfl rfl rfl c21 ?_
      refine zA_ldn rfl rfl rfl ?_
      refine zA_ldn rfl rfl rfl ?_
      refine zA_ldn rfl rfl rfl ?_
      refine zA_st (st' := [zI (x0 >>> (x2 &&& 31)), zI x1]) rfl rfl rfl rfl ?_
      refine zA_push rfl rfl zkk5 ?_
      refine zA_st (st' := [zI ((x0 >>> (x2 &&& 31)) &&& (1 : Int32)), zI x1]) rfl rfl rfl rfl ?_
      refine zA_st (st' := [zI (x1 + ((x0 >>> (x2 &&& 31)) &&& (1 : Int32)))]) rfl rfl rfl rfl ?_
      obtain ⟨x22, e23, H⟩ := zlet_e H
      refine zA_istn2 rfl rfl e23 (zset1 (L' := [some (zI x0), some (zI x22), some (zI x2)]) rfl rfl (zpcV rfl rfl)) ?_
      obtain ⟨x24, e25, H⟩ := zlet_e H
      refine zA_inc rfl rfl rfl (e25.trans (congrArg (_ + ·) zkk8)) (zset1 (L' := [some (zI x0), some (zI x22), some (zI x24)]) rfl rfl (zpcV rfl rfl)) ?_
      refine zA_go rfl rfl ?_
      exact zA_tr (L := [some (zI x0), some (zI x22), some (zI x24)]) rfl rfl (ih _ _ _ _ _ _ H)
-- 159: ReleaseHouseModel.bits(I)I
def zm159 (x0 : Int32) (h : zH) : zRs Int32 :=
  zm159_4 zN0 x0 (0 : Int32) (0 : Int32) h
theorem zmS159 {x0 : Int32} {h : zH} {r : Int32 ⊕ Nat} {h' : zH} (H : zm159 x0 h = some (r, h')) : zAt 159 0 [some (zI x0), none, none] [] h (zoI r) h' := by
  unfold zm159 at H
  refine zA_push rfl rfl zkk7 ?_
  refine zA_istn2 rfl rfl rfl (zset1 (L' := [some (zI x0), some (zI (0 : Int32)), none]) rfl rfl (zpcV rfl rfl)) ?_
  refine zA_push rfl rfl zkk7 ?_
  refine zA_istn2 rfl rfl rfl (zset1 (L' := [some (zI x0), some (zI (0 : Int32)), some (zI (0 : Int32))]) rfl rfl (zpcV rfl rfl)) ?_
  exact zA_tr (L := [some (zI x0), some (zI (0 : Int32)), some (zI (0 : Int32))]) rfl rfl (zmS159_4 zN0 _ _ _ _ _ _ H)
theorem zmE159 (x0 : Int32) : zpad (zPr.2.1 159).1 (zil [zI x0]) = [some (zI x0), none, none] := by
  simp only [zil_A, zil_I, zil_F, zil_D, zil_N]
  rfl
def zm160_40 (x0 : zq) (x1 : Int32) (x2 : Int32) (s0 : zq) (s1 : Int32) (h : zH) : zRs Int32 :=
  zob 12 s0 fun p21 i22 =>
  zlet (zsi h p21 i22 0 s1) fun h25 =>
  zob 12 x0 fun p27 i28 =>
  if (zi h25 p27 i28 0) ≤ 0 then
    zri (zr h25 p27 i28 36) x1 h25 fun v39 =>
    zar 1 (zr h25 p27 i28 36) x1 h25 fun p41 i42 j43 =>
    zlet (zsi h25 p41 i42 j43 (v39 ||| ((1 : Int32) <<< (x2 &&& 31)))) fun h48 =>
    zri (zr h48 p27 i28 36) x1 h48 fun v57 =>
    zb (zm159 v57 h48) fun x60 h59 =>
    some (.inl x60, h59)
  else
    some (.inl (0 : Int32), h25)
theorem zmS160_40 : ∀ (x0 : zq) (x1 : Int32) (x2 : Int32) (s0 : zq) (s1 : Int32) (h : zH) (r : Int32 ⊕ Nat) (h' : zH), zm160_40 x0 x1 x2 s0 s1 h = some (r, h') → zAt 160 40 [some (zrv x0), some (zI x1), some (zI x2)] [zI s1, zrv s0] h (zoI r) h' := by
  intro x0 x1 x2 s0 s1 h r h' H
  unfold zm160_40 at H
  obtain ⟨p21, i22, e23, c24, H⟩ := zob_e H
  obtain ⟨h25, e26, H⟩ := zlet_e H
  refine zA_pf0 rfl rfl e23 c24 e26 ?_
  refine zA_aldn rfl rfl rfl ?_
  obtain ⟨p27, i28, e29, c30, H⟩ := zob_e H
  refine zA_gf0 rfl rfl (Or.inl rfl) e29 c30 ?_
  rcases zite_e H with ⟨c31, H⟩ | ⟨c31, H⟩
  · refine zA_brT (c := (zi h25 p27 i28 0) ≤ 0) rfl rfl rfl c31 ?_
    refine zA_aldn rfl rfl rfl ?_
    refine zA_gf3 rfl rfl e29 c30 ?_
    refine zA_ldn rfl rfl rfl ?_
    refine zA_dup2 rfl rfl rfl (zcat_rv _) ?_
    obtain ⟨p32, i33, j34, v39, e35, c36, c37, e38, e40, H⟩ := zri_e H
    refine zA_ial rfl rfl e35 c36 c37 e38 e40 ?_
    refine zA_push rfl rfl zkk5 ?_
    refine zA_ldn rfl rfl rfl ?_
    refine zA_st (st' := [zI ((1 : Int32) <<< (x2 &&& 31)), zI v39, zI x1, zrv (zr h25 p27 i28 36)]) rfl rfl rfl rfl ?_
    refine zA_st (st' := [zI (v39 ||| ((1 : Int32) <<< (x2 &&& 31))), zI x1, zrv (zr h25 p27 i28 36)]) rfl rfl rfl rfl ?_
    obtain ⟨p41, i42, j43, e44, c45, c46, e47, H⟩ := zar_e H
    obtain ⟨h48, e49, H⟩ := zlet_e H
    refine zA_ias rfl rfl e44 c45 c46 e47 e49 ?_
    refine zA_aldn rfl rfl rfl ?_
    refine zA_gf3 rfl rfl e29 c30 ?_
    refine zA_ldn rfl rfl rfl ?_
    obtain ⟨p50, i51, j52, v57, e53, c54, c55, e56, e58, H⟩ := zri_e H
    refine zA_ial rfl rfl e53 c54 c55 e56 e58 ?_
    rcases zb_e H with ⟨x60, h59, C, H⟩ | ⟨E, h59, C, H⟩
    · refine zA_callV (as := [zI v57]) (st' := []) rfl rfl rfl rfl rfl (zmE159 _) rfl (zmS159 C) ?_
      cases H
      exact zA_ret rfl rfl
    · cases H
      exact zA_callX (as := [zI v57]) (st' := []) rfl rfl rfl rfl (zmE159 _) rfl rfl rfl (zmS159 C)
  · refine zA_brF (c := (zi h25 p27 i28 0) ≤ 0) rfl rfl rfl c31 ?_
    refine zA_push rfl rfl zkk7 ?_
    cases H
    exact zA_ret rfl rfl
-- 160: ReleaseHouseModel.approve(II)I
def zm160 (x0 : zq) (x1 : Int32) (x2 : Int32) (h : zH) : zRs Int32 :=
  zob 12 x0 fun p21 i22 =>
  zb (zm143 x0 x1 h) fun x26 h25 =>
  if x26 = 0 then
    zm160_40 x0 x1 x2 x0 (1 : Int32) h25
  else
    zb (zm139 x2 (0 : Int32) (5 : Int32) h25) fun x29 h28 =>
    if x29 = 0 then
      zm160_40 x0 x1 x2 x0 (2 : Int32) h28
    else
      zri (zr h28 p21 i22 31) x1 h28 fun v38 =>
      zri (zr h28 p21 i22 4) v38 h28 fun v47 =>
      if v47 = x2 then
        zm160_40 x0 x1 x2 x0 (3 : Int32) h28
      else
        zri (zr h28 p21 i22 36) x1 h28 fun v57 =>
        if ((v57 >>> (x2 &&& 31)) &&& (1 : Int32)) = (1 : Int32) then
          zm160_40 x0 x1 x2 x0 (3 : Int32) h28
        else
          zb (zm156 x0 x1 h28) fun x61 h60 =>
          if x61 = 0 then
            zm160_40 x0 x1 x2 x0 (0 : Int32) h60
          else
            zm160_40 x0 x1 x2 x0 (3 : Int32) h60
theorem zmS160 {x0 : zq} {x1 : Int32} {x2 : Int32} {h : zH} {r : Int32 ⊕ Nat} {h' : zH} (H : zm160 x0 x1 x2 h = some (r, h')) : zAt 160 0 [some (zrv x0), some (zI x1), some (zI x2)] [] h (zoI r) h' := by
  unfold zm160 at H
  refine zA_aldn rfl rfl rfl ?_
  refine zA_aldn rfl rfl rfl ?_
  refine zA_ldn rfl rfl rfl ?_
  obtain ⟨p21, i22, e23, c24, H⟩ := zob_e H
  rcases zb_e H with ⟨x26, h25, C, H⟩ | ⟨E, h25, C, H⟩
  · refine zA_callV (as := [zrv x0, zI x1]) (st' := [zrv x0]) rfl rfl rfl (zrcv_Q e23 c24) rfl (zmE143 _ _) rfl (zmS143 C) ?_
    rcases zite_e H with ⟨c27, H⟩ | ⟨c27, H⟩
    · refine zA_brF' (c := x26 = 0) rfl rfl rfl c27 ?_
      refine zA_push rfl rfl zkk5 ?_
      refine zA_go rfl rfl ?_
      exact zA_tr (L := [some (zrv x0), some (zI x1), some (zI x2)]) rfl rfl (zmS160_40 _ _ _ _ _ _ _ _ H)
    · refine zA_brT' (c := x26 = 0) rfl rfl rfl c27 ?_
      refine zA_ldn rfl rfl rfl ?_
      refine zA_push rfl rfl zkk7 ?_
      refine zA_push rfl rfl zkk20 ?_
      rcases zb_e H with ⟨x29, h28, C, H⟩ | ⟨E, h28, C, H⟩
      · refine zA_callV (as := [zI x2, zI (0 : Int32), zI (5 : Int32)]) (st' := [zrv x0]) rfl rfl rfl rfl rfl (zmE139 _ _ _) rfl (zmS139 C) ?_
        rcases zite_e H with ⟨c30, H⟩ | ⟨c30, H⟩
        · refine zA_brF' (c := x29 = 0) rfl rfl rfl c30 ?_
          refine zA_push rfl rfl zkk23 ?_
          refine zA_go rfl rfl ?_
          exact zA_tr (L := [some (zrv x0), some (zI x1), some (zI x2)]) rfl rfl (zmS160_40 _ _ _ _ _ _ _ _ H)
        · refine zA_brT' (c := x29 = 0) rfl rfl rfl c30 ?_
          refine zA_aldn rfl rfl rfl ?_
          refine zA_gf3 rfl rfl e23 c24 ?_
          refine zA_aldn rfl rfl rfl ?_
          refine zA_gf3 rfl rfl e23 c24 ?_
          refine zA_ldn rfl rfl rfl ?_
          obtain ⟨p31, i32, j33, v38, e34, c35, c36, e37, e39, H⟩ := zri_e H
          refine zA_ial rfl rfl e34 c35 c36 e37 e39 ?_
          obtain ⟨p40, i41, j42, v47, e43, c44, c45, e46, e48, H⟩ := zri_e H
          refine zA_ial rfl rfl e43 c44 c45 e46 e48 ?_
          refine zA_ldn rfl rfl rfl ?_
          rcases zite_e H with ⟨c49, H⟩ | ⟨c49, H⟩
          · refine zA_brT (c := v47 = x2) rfl rfl rfl c49 ?_
            refine zA_push rfl rfl zkk3 ?_
            refine zA_go rfl rfl ?_
            exact zA_tr (L := [some (zrv x0), some (zI x1), some (zI x2)]) rfl rfl (zmS160_40 _ _ _ _ _ _ _ _ H)
          · refine zA_brF (c := v47 = x2) rfl rfl rfl c49 ?_
            refine zA_aldn rfl rfl rfl ?_
            refine zA_gf3 rfl rfl e23 c24 ?_
            refine zA_ldn rfl rfl rfl ?_
            obtain ⟨p50, i51, j52, v57, e53, c54, c55, e56, e58, H⟩ := zri_e H
            refine zA_ial rfl rfl e53 c54 c55 e56 e58 ?_
            refine zA_ldn rfl rfl rfl ?_
            refine zA_st (st' := [zI (v57 >>> (x2 &&& 31)), zrv x0]) rfl rfl rfl rfl ?_
            refine zA_push rfl rfl zkk5 ?_
            refine zA_st (st' := [zI ((v57 >>> (x2 &&& 31)) &&& (1 : Int32)), zrv x0]) rfl rfl rfl rfl ?_
            refine zA_push rfl rfl zkk5 ?_
            rcases zite_e H with ⟨c59, H⟩ | ⟨c59, H⟩
            · refine zA_brT (c := ((v57 >>> (x2 &&& 31)) &&& (1 : Int32)) = (1 : Int32)) rfl rfl rfl c59 ?_
              refine zA_push rfl rfl zkk3 ?_
              refine zA_go rfl rfl ?_
              exact zA_tr (L := [some (zrv x0), some (zI x1), some (zI x2)]) rfl rfl (zmS160_40 _ _ _ _ _ _ _ _ H)
            · refine zA_brF (c := ((v57 >>> (x2 &&& 31)) &&& (1 : Int32)) = (1 : Int32)) rfl rfl rfl c59 ?_
              refine zA_aldn rfl rfl rfl ?_
              refine zA_ldn rfl rfl rfl ?_
              rcases zb_e H with ⟨x61, h60, C, H⟩ | ⟨E, h60, C, H⟩
              · refine zA_callV (as := [zrv x0, zI x1]) (st' := [zrv x0]) rfl rfl rfl (zrcv_Q e23 c24) rfl (zmE156 _ _) rfl (zmS156 C) ?_
                rcases zite_e H with ⟨c62, H⟩ | ⟨c62, H⟩
                · refine zA_brT (c := x61 = 0) rfl rfl rfl c62 ?_
                  refine zA_push rfl rfl zkk7 ?_
                  exact zA_tr (L := [some (zrv x0), some (zI x1), some (zI x2)]) rfl rfl (zmS160_40 _ _ _ _ _ _ _ _ H)
                · refine zA_brF (c := x61 = 0) rfl rfl rfl c62 ?_
                  refine zA_push rfl rfl zkk3 ?_
                  refine zA_go rfl rfl ?_
                  exact zA_tr (L := [some (zrv x0), some (zI x1), some (zI x2)]) rfl rfl (zmS160_40 _ _ _ _ _ _ _ _ H)
              · cases H
                exact zA_callX (as := [zrv x0, zI x1]) (st' := [zrv x0]) rfl rfl (zrcv_Q e23 c24) rfl (zmE156 _ _) rfl rfl rfl (zmS156 C)
      · cases H
        exact zA_callX (as := [zI x2, zI (0 : Int32), zI (5 : Int32)]) (st' := [zrv x0]) rfl rfl rfl rfl (zmE139 _ _ _) rfl rfl rfl (zmS139 C)
  · cases H
    exact zA_callX (as := [zrv x0, zI x1]) (st' := [zrv x0]) rfl rfl (zrcv_Q e23 c24) rfl (zmE143 _ _) rfl rfl rfl (zmS143 C)
theorem zmE160 (x0 : zq) (x1 : Int32) (x2 : Int32) : zpad (zPr.2.1 160).1 (zil [zrv x0, zI x1, zI x2]) = [some (zrv x0), some (zI x1), some (zI x2)] := by
  simp only [zil_A, zil_I, zil_F, zil_D, zil_N]
  rfl
def zm18_8 : Nat → zq → Int32 → zH → zRs Unit
  | 0, _, _, _ => none
  | n + 1, x0, x1, h =>
    if (17 : Int32) ≤ x1 then
      some (.inl (), h)
    else
      zob 7 x0 fun p22 i23 =>
      zar 1 (zr h p22 i23 3) x1 h fun p26 i27 j28 =>
      zlet (zsi h p26 i27 j28 (0 : Int32)) fun h33 =>
      zlet (x1 + (1 : Int32)) fun x35 =>
      zm18_8 n x0 x35 h33
theorem zmS18_8 : ∀ (n : Nat) (x0 : zq) (x1 : Int32) (h : zH) (r : Unit ⊕ Nat) (h' : zH), zm18_8 n x0 x1 h = some (r, h') → zAt 18 8 [some (zrv x0), some (zI x1)] [] h (zoU r) h' := by
  intro n
  induction n with
  | zero => intro x0 x1 h r h' H; cases H
  | succ n ih =>
    intro x0 x1 h r h' H
    unfold zm18_8 at H
    refine zA_ldn rfl rfl rfl ?_
    refine zA_push rfl rfl zkk1 ?_
    rcases zite_e H with ⟨c21, H⟩ | ⟨c21, H⟩
    · refine zA_brT (c := (17 : Int32) ≤ x1) rfl rfl rfl c21 ?_
      refine zA_tr (L := [none, none]) rfl rfl ?_
      cases H
      exact zA_ret rfl rfl
    · refine zA_brF (c := (17 : Int32) ≤ x1) rfl rfl rfl c21 ?_
      refine zA_aldn rfl rfl rfl ?_
      obtain ⟨p22, i23, e24, c25, H⟩ := zob_e H
      refine zA_gf3 rfl rfl e24 c25 ?_
      refine zA_ldn rfl rfl rfl ?_
      refine zA_push rfl rfl zkk7 ?_
      obtain ⟨p26, i27, j28, e29, c30, c31, e32, H⟩ := zar_e H
      obtain ⟨h33, e34, H⟩ := zlet_e H
      refine zA_ias rfl rfl e29 c30 c31 e32 e34 ?_
      obtain ⟨x35, e36, H⟩ := zlet_e H
      refine zA_inc rfl rfl rfl (e36.trans (congrArg (_ + ·) zkk8)) (zset1 (L' := [some (zrv x0), some (zI x35)]) rfl rfl (zpcV rfl (zcat_rv _))) ?_
      refine zA_go rfl rfl ?_
      exact zA_tr (L := [some (zrv x0), some (zI x35)]) rfl rfl (ih _ _ _ _ _ H)
-- 18: ReleaseHouse$Sample.empty()V
def zm18 (x0 : zq) (h : zH) : zRs Unit :=
  zob 7 x0 fun p21 i22 =>
  zlet (zsi h p21 i22 1 (0 : Int32)) fun h25 =>
  zlet (zsi h25 p21 i22 2 (0 : Int32)) fun h27 =>
  zm18_8 zN0 x0 (0 : Int32) h27
theorem zmS18 {x0 : zq} {h : zH} {r : Unit ⊕ Nat} {h' : zH} (H : zm18 x0 h = some (r, h')) : zAt 18 0 [some (zrv x0), none] [] h (zoU r) h' := by
  unfold zm18 at H
  refine zA_aldn rfl rfl rfl ?_
  refine zA_push rfl rfl zkk7 ?_
  obtain ⟨p21, i22, e23, c24, H⟩ := zob_e H
  obtain ⟨h25, e26, H⟩ := zlet_e H
  refine zA_pf0 rfl rfl e23 c24 e26 ?_
  refine zA_aldn rfl rfl rfl ?_
  refine zA_push rfl rfl zkk7 ?_
  obtain ⟨h27, e28, H⟩ := zlet_e H
  refine zA_pf0 rfl rfl e23 c24 e28 ?_
  refine zA_push rfl rfl zkk7 ?_
  refine zA_istn2 rfl rfl rfl (zset1 (L' := [some (zrv x0), some (zI (0 : Int32))]) rfl rfl (zpcV rfl (zcat_rv _))) ?_
  exact zA_tr (L := [some (zrv x0), some (zI (0 : Int32))]) rfl rfl (zmS18_8 zN0 _ _ _ _ _ H)
theorem zmE18 (x0 : zq) : zpad (zPr.2.1 18).1 (zil [zrv x0]) = [some (zrv x0), none] := by
  simp only [zil_A, zil_I, zil_F, zil_D, zil_N]
  rfl
-- 30: ReleaseHouse$Spot.addUse(LReleaseHouse$Artefact;I)V
def zm30 (x0 : zq) (x1 : Int32) (h : zH) : zRs Unit :=
  if x0 = none then
    some (.inl (), h)
  else
    zob 0 x0 fun p22 i23 =>
    zlet (zsi h p22 i23 10 ((zi h p22 i23 10) + x1)) fun h26 =>
    some (.inl (), h26)
theorem zmS30 {x0 : zq} {x1 : Int32} {h : zH} {r : Unit ⊕ Nat} {h' : zH} (H : zm30 x0 x1 h = some (r, h')) : zAt 30 0 [some (zrv x0), some (zI x1)] [] h (zoU r) h' := by
  unfold zm30 at H
  refine zA_aldn rfl rfl rfl ?_
  rcases zite_e H with ⟨c21, H⟩ | ⟨c21, H⟩
  · refine zA_brT (c := x0 = none) rfl rfl zIf_null c21 ?_
    refine zA_tr (L := [none, none]) rfl rfl ?_
    cases H
    exact zA_ret rfl rfl
  · refine zA_brF (c := x0 = none) rfl rfl zIf_null c21 ?_
    refine zA_aldn rfl rfl rfl ?_
    refine zA_dup rfl rfl (zcat_rv _) ?_
    obtain ⟨p22, i23, e24, c25, H⟩ := zob_e H
    refine zA_gf0 rfl rfl (Or.inl rfl) e24 c25 ?_
    refine zA_ldn rfl rfl rfl ?_
    refine zA_st (st' := [zI ((zi h p22 i23 10) + x1), zrv x0]) rfl rfl rfl rfl ?_
    obtain ⟨h26, e27, H⟩ := zlet_e H
    refine zA_pf0 rfl rfl e24 c25 e27 ?_
    refine zA_tr (L := [none, none]) rfl rfl ?_
    cases H
    exact zA_ret rfl rfl
theorem zmE30 (x0 : zq) (x1 : Int32) : zpad (zPr.2.1 30).1 (zil [zrv x0, zI x1]) = [some (zrv x0), some (zI x1)] := by
  simp only [zil_A, zil_I, zil_F, zil_D, zil_N]
  rfl
def zm29_33 (x0 : zq) (x1 : zq) (x2 : zq) (x3 : Int32) (h : zH) : zRs Unit :=
  zob 9 x0 fun p21 i22 =>
  zb (zm30 (zr h p21 i22 0) (-1 : Int32) h) fun _ h25 =>
  zb (zm30 (zr h25 p21 i22 1) (-1 : Int32) h25) fun _ h26 =>
  zb (zm30 x1 (1 : Int32) h26) fun _ h27 =>
  zb (zm30 x2 (1 : Int32) h27) fun _ h28 =>
  zlet (zsr h28 p21 i22 0 x1) fun h29 =>
  zlet (zsr h29 p21 i22 1 x2) fun h31 =>
  zlet (zsi h31 p21 i22 2 x3) fun h33 =>
  some (.inl (), h33)
theorem zmS29_33 : ∀ (x0 : zq) (x1 : zq) (x2 : zq) (x3 : Int32) (h : zH) (r : Unit ⊕ Nat) (h' : zH), zm29_33 x0 x1 x2 x3 h = some (r, h') → zAt 29 33 [some (zrv x0), some (zrv x1), some (zrv x2), some (zI x3)] [] h (zoU r) h' := by
  intro x0 x1 x2 x3 h r h' H
  unfold zm29_33 at H
  refine zA_aldn rfl rfl rfl ?_
  obtain ⟨p21, i22, e23, c24, H⟩ := zob_e H
  refine zA_gf3 rfl rfl e23 c24 ?_
  refine zA_push rfl rfl zkk6 ?_
  rcases zb_e H with ⟨u38, h25, C, H⟩ | ⟨E, h25, C, H⟩
  · refine zA_callU (as := [zrv (zr h p21 i22 0), zI (-1 : Int32)]) (st' := []) rfl rfl rfl rfl rfl (zmE30 _ _) rfl (zmS30 C) ?_
    refine zA_aldn rfl rfl rfl ?_
    refine zA_gf3 rfl rfl e23 c24 ?_
    refine zA_push rfl rfl zkk6 ?_
    rcases zb_e H with ⟨u37, h26, C, H⟩ | ⟨E, h26, C, H⟩
    · refine zA_callU (as := [zrv (zr h25 p21 i22 1), zI (-1 : Int32)]) (st' := []) rfl rfl rfl rfl rfl (zmE30 _ _) rfl (zmS30 C) ?_
      refine zA_aldn rfl rfl rfl ?_
      refine zA_push rfl rfl zkk5 ?_
      rcases zb_e H with ⟨u36, h27, C, H⟩ | ⟨E, h27, C, H⟩
      · refine zA_callU (as := [zrv x1, zI (1 : Int32)]) (st' := []) rfl rfl rfl rfl rfl (zmE30 _ _) rfl (zmS30 C) ?_
        refine zA_aldn rfl rfl rfl ?_
        refine zA_push rfl rfl zkk5 ?_
        rcases zb_e H with ⟨u35, h28, C, H⟩ | ⟨E, h28, C, H⟩
        · refine zA_callU (as := [zrv x2, zI (1 : Int32)]) (st' := []) rfl rfl rfl rfl rfl (zmE30 _ _) rfl (zmS30 C) ?_
          refine zA_aldn rfl rfl rfl ?_
          refine zA_aldn rfl rfl rfl ?_
          obtain ⟨h29, e30, H⟩ := zlet_e H
          refine zA_pf3 rfl rfl e23 c24 e30 ?_
          refine zA_aldn rfl rfl rfl ?_
          refine zA_aldn rfl rfl rfl ?_
          obtain ⟨h31, e32, H⟩ := zlet_e H
          refine zA_pf3 rfl rfl e23 c24 e32 ?_
          refine zA_aldn rfl rfl rfl ?_
          refine zA_ldn rfl rfl rfl ?_
          obtain ⟨h33, e34, H⟩ := zlet_e H
          refine zA_pf0 rfl rfl e23 c24 e34 ?_
          cases H
          exact zA_ret rfl rfl
        · cases H
          exact zA_callX (as := [zrv x2, zI (1 : Int32)]) (st' := []) rfl rfl rfl rfl (zmE30 _ _) rfl rfl rfl (zmS30 C)
      · cases H
        exact zA_callX (as := [zrv x1, zI (1 : Int32)]) (st' := []) rfl rfl rfl rfl (zmE30 _ _) rfl rfl rfl (zmS30 C)
    · cases H
      exact zA_callX (as := [zrv (zr h25 p21 i22 1), zI (-1 : Int32)]) (st' := []) rfl rfl rfl rfl (zmE30 _ _) rfl rfl rfl (zmS30 C)
  · cases H
    exact zA_callX (as := [zrv (zr h p21 i22 0), zI (-1 : Int32)]) (st' := []) rfl rfl rfl rfl (zmE30 _ _) rfl rfl rfl (zmS30 C)
def zm29_24 (x0 : zq) (x1 : zq) (x2 : zq) (x3 : Int32) (h : zH) : zRs Unit :=
  zob 9 x0 fun p21 i22 =>
  zlet (zsd h p21 i22 4 (4607182418800017408 : UInt64)) fun h25 =>
  zob 7 (zr h25 p21 i22 5) fun p27 i28 =>
  zb (zm18 (zr h25 p21 i22 5) h25) fun _ h31 =>
  zob 7 (zr h31 p21 i22 6) fun p32 i33 =>
  zb (zm18 (zr h31 p21 i22 6) h31) fun _ h36 =>
  zm29_33 x0 x1 x2 x3 h36
theorem zmS29_24 : ∀ (x0 : zq) (x1 : zq) (x2 : zq) (x3 : Int32) (h : zH) (r : Unit ⊕ Nat) (h' : zH), zm29_24 x0 x1 x2 x3 h = some (r, h') → zAt 29 24 [some (zrv x0), some (zrv x1), some (zrv x2), some (zI x3)] [] h (zoU r) h' := by
  intro x0 x1 x2 x3 h r h' H
  unfold zm29_24 at H
  refine zA_aldn rfl rfl rfl ?_
  refine zA_push rfl rfl zkk2 ?_
  obtain ⟨p21, i22, e23, c24, H⟩ := zob_e H
  obtain ⟨h25, e26, H⟩ := zlet_e H
  refine zA_pf2 rfl rfl e23 c24 e26 ?_
  refine zA_aldn rfl rfl rfl ?_
  refine zA_gf3 rfl rfl e23 c24 ?_
  obtain ⟨p27, i28, e29, c30, H⟩ := zob_e H
  rcases zb_e H with ⟨u38, h31, C, H⟩ | ⟨E, h31, C, H⟩
  · refine zA_callU (as := [zrv (zr h25 p21 i22 5)]) (st' := []) rfl rfl rfl (zrcv_Q e29 c30) rfl (zmE18 _) rfl (zmS18 C) ?_
    refine zA_aldn rfl rfl rfl ?_
    refine zA_gf3 rfl rfl e23 c24 ?_
    obtain ⟨p32, i33, e34, c35, H⟩ := zob_e H
    rcases zb_e H with ⟨u37, h36, C, H⟩ | ⟨E, h36, C, H⟩
    · refine zA_callU (as := [zrv (zr h31 p21 i22 6)]) (st' := []) rfl rfl rfl (zrcv_Q e34 c35) rfl (zmE18 _) rfl (zmS18 C) ?_
      exact zA_tr (L := [some (zrv x0), some (zrv x1), some (zrv x2), some (zI x3)]) rfl rfl (zmS29_33 _ _ _ _ _ _ _ H)
    · cases H
      exact zA_callX (as := [zrv (zr h31 p21 i22 6)]) (st' := []) rfl rfl (zrcv_Q e34 c35) rfl (zmE18 _) rfl rfl rfl (zmS18 C)
  · cases H
    exact zA_callX (as := [zrv (zr h25 p21 i22 5)]) (st' := []) rfl rfl (zrcv_Q e29 c30) rfl (zmE18 _) rfl rfl rfl (zmS18 C)
def zm29_13 (x0 : zq) (x1 : zq) (x2 : zq) (x3 : Int32) (h : zH) : zRs Unit :=
  zob 9 x0 fun p21 i22 =>
  zlet (zsi h p21 i22 3 (1 : Int32)) fun h25 =>
  if x1 = (zr h25 p21 i22 0) then
    if x2 = (zr h25 p21 i22 1) then
      zm29_33 x0 x1 x2 x3 h25
    else
      zm29_24 x0 x1 x2 x3 h25
  else
    zm29_24 x0 x1 x2 x3 h25
theorem zmS29_13 : ∀ (x0 : zq) (x1 : zq) (x2 : zq) (x3 : Int32) (h : zH) (r : Unit ⊕ Nat) (h' : zH), zm29_13 x0 x1 x2 x3 h = some (r, h') → zAt 29 13 [some (zrv x0), some (zrv x1), some (zrv x2), some (zI x3)] [] h (zoU r) h' := by
  intro x0 x1 x2 x3 h r h' H
  unfold zm29_13 at H
  refine zA_aldn rfl rfl rfl ?_
  refine zA_push rfl rfl zkk5 ?_
  obtain ⟨p21, i22, e23, c24, H⟩ := zob_e H
  obtain ⟨h25, e26, H⟩ := zlet_e H
  refine zA_pf1 rfl rfl e23 c24 (by decide) e26 ?_
  refine zA_aldn rfl rfl rfl ?_
  refine zA_aldn rfl rfl rfl ?_
  refine zA_gf3 rfl rfl e23 c24 ?_
  rcases zite_e H with ⟨c27, H⟩ | ⟨c27, H⟩
  · refine zA_brF' (c := x1 = (zr h25 p21 i22 0)) rfl rfl zIf_ane c27 ?_
    refine zA_aldn rfl rfl rfl ?_
    refine zA_aldn rfl rfl rfl ?_
    refine zA_gf3 rfl rfl e23 c24 ?_
    rcases zite_e H with ⟨c28, H⟩ | ⟨c28, H⟩
    · refine zA_brT (c := x2 = (zr h25 p21 i22 1)) rfl rfl zIf_aeq c28 ?_
      exact zA_tr (L := [some (zrv x0), some (zrv x1), some (zrv x2), some (zI x3)]) rfl rfl (zmS29_33 _ _ _ _ _ _ _ H)
    · refine zA_brF (c := x2 = (zr h25 p21 i22 1)) rfl rfl zIf_aeq c28 ?_
      exact zA_tr (L := [some (zrv x0), some (zrv x1), some (zrv x2), some (zI x3)]) rfl rfl (zmS29_24 _ _ _ _ _ _ _ H)
  · refine zA_brT' (c := x1 = (zr h25 p21 i22 0)) rfl rfl zIf_ane c27 ?_
    exact zA_tr (L := [some (zrv x0), some (zrv x1), some (zrv x2), some (zI x3)]) rfl rfl (zmS29_24 _ _ _ _ _ _ _ H)
-- 29: ReleaseHouse$Spot.become(LReleaseHouse$Artefact;LReleaseHouse$Artefact;I)V
def zm29 (x0 : zq) (x1 : zq) (x2 : zq) (x3 : Int32) (h : zH) : zRs Unit :=
  zob 9 x0 fun p21 i22 =>
  if x1 = (zr h p21 i22 0) then
    if x2 = (zr h p21 i22 1) then
      if x3 = (zi h p21 i22 2) then
        some (.inl (), h)
      else
        zm29_13 x0 x1 x2 x3 h
    else
      zm29_13 x0 x1 x2 x3 h
  else
    zm29_13 x0 x1 x2 x3 h
theorem zmS29 {x0 : zq} {x1 : zq} {x2 : zq} {x3 : Int32} {h : zH} {r : Unit ⊕ Nat} {h' : zH} (H : zm29 x0 x1 x2 x3 h = some (r, h')) : zAt 29 0 [some (zrv x0), some (zrv x1), some (zrv x2), some (zI x3)] [] h (zoU r) h' := by
  unfold zm29 at H
  refine zA_aldn rfl rfl rfl ?_
  refine zA_aldn rfl rfl rfl ?_
  obtain ⟨p21, i22, e23, c24, H⟩ := zob_e H
  refine zA_gf3 rfl rfl e23 c24 ?_
  rcases zite_e H with ⟨c25, H⟩ | ⟨c25, H⟩
  · refine zA_brF' (c := x1 = (zr h p21 i22 0)) rfl rfl zIf_ane c25 ?_
    refine zA_aldn rfl rfl rfl ?_
    refine zA_aldn rfl rfl rfl ?_
    refine zA_gf3 rfl rfl e23 c24 ?_
    rcases zite_e H with ⟨c26, H⟩ | ⟨c26, H⟩
    · refine zA_brF' (c := x2 = (zr h p21 i22 1)) rfl rfl zIf_ane c26 ?_
      refine zA_ldn rfl rfl rfl ?_
      refine zA_aldn rfl rfl rfl ?_
      refine zA_gf0 rfl rfl (Or.inl rfl) e23 c24 ?_
      rcases zite_e H with ⟨c27, H⟩ | ⟨c27, H⟩
      · refine zA_brF' (c := x3 = (zi h p21 i22 2)) rfl rfl rfl c27 ?_
        cases H
        exact zA_ret rfl rfl
      · refine zA_brT' (c := x3 = (zi h p21 i22 2)) rfl rfl rfl c27 ?_
        exact zA_tr (L := [some (zrv x0), some (zrv x1), some (zrv x2), some (zI x3)]) rfl rfl (zmS29_13 _ _ _ _ _ _ _ H)
    · refine zA_brT' (c := x2 = (zr h p21 i22 1)) rfl rfl zIf_ane c26 ?_
      exact zA_tr (L := [some (zrv x0), some (zrv x1), some (zrv x2), some (zI x3)]) rfl rfl (zmS29_13 _ _ _ _ _ _ _ H)
  · refine zA_brT' (c := x1 = (zr h p21 i22 0)) rfl rfl zIf_ane c25 ?_
    exact zA_tr (L := [some (zrv x0), some (zrv x1), some (zrv x2), some (zI x3)]) rfl rfl (zmS29_13 _ _ _ _ _ _ _ H)
theorem zmE29 (x0 : zq) (x1 : zq) (x2 : zq) (x3 : Int32) : zpad (zPr.2.1 29).1 (zil [zrv x0, zrv x1, zrv x2, zI x3]) = [some (zrv x0), some (zrv x1), some (zrv x2), some (zI x3)] := by
  simp only [zil_A, zil_I, zil_F, zil_D, zil_N]
  rfl
def zm58_26 (k8 : zq → zq → Int32 → zH → zRs Unit) (x1 : zq) (x2 : zq) (x3 : Int32) (h : zH) : zRs Unit :=
  zlet (x3 + (1 : Int32)) fun x21 =>
  k8 x1 x2 x21 h
theorem zmS58_26 {k8 : zq → zq → Int32 → zH → zRs Unit} (hk8 : ∀ (x1 : zq) (x2 : zq) (x3 : Int32) (h : zH) (r : Unit ⊕ Nat) (h' : zH), k8 x1 x2 x3 h = some (r, h') → zAt 58 8 [none, some (zrv x1), some (zrv x2), some (zI x3), none] [] h (zoU r) h') : ∀ (x1 : zq) (x2 : zq) (x3 : Int32) (h : zH) (r : Unit ⊕ Nat) (h' : zH), zm58_26 k8 x1 x2 x3 h = some (r, h') → zAt 58 26 [none, some (zrv x1), some (zrv x2), some (zI x3), none] [] h (zoU r) h' := by
  intro x1 x2 x3 h r h' H
  unfold zm58_26 at H
  obtain ⟨x21, e22, H⟩ := zlet_e H
  refine zA_inc rfl rfl rfl (e22.trans (congrArg (_ + ·) zkk8)) (zset1 (L' := [none, some (zrv x1), some (zrv x2), some (zI x21), none]) rfl rfl (zpcV rfl (zcat_rv _))) ?_
  refine zA_go rfl rfl ?_
  exact zA_tr (L := [none, some (zrv x1), some (zrv x2), some (zI x21), none]) rfl rfl (hk8 _ _ _ _ _ _ H)
def zm58_8 : Nat → zq → zq → Int32 → zH → zRs Unit
  | 0, _, _, _, _ => none
  | n + 1, x1, x2, x3, h =>
    if (3 : Int32) ≤ x3 then
      some (.inl (), h)
    else
      zob 8 x2 fun p22 i23 =>
      zra (zr h p22 i23 0) x3 h fun v33 =>
      zob 9 v33 fun p35 i36 =>
      if (zr h p35 i36 1) = x1 then
        zb (zm29 v33 (zr h p35 i36 0) (none : zq) (0 : Int32) h) fun _ h40 =>
        zm58_26 (zm58_8 n) x1 x2 x3 h40
      else
        zm58_26 (zm58_8 n) x1 x2 x3 h
theorem zmS58_8 : ∀ (n : Nat) (x1 : zq) (x2 : zq) (x3 : Int32) (h : zH) (r : Unit ⊕ Nat) (h' : zH), zm58_8 n x1 x2 x3 h = some (r, h') → zAt 58 8 [none, some (zrv x1), some (zrv x2), some (zI x3), none] [] h (zoU r) h' := by
  intro n
  induction n with
  | zero => intro x1 x2 x3 h r h' H; cases H
  | succ n ih =>
    intro x1 x2 x3 h r h' H
    unfold zm58_8 at H
    refine zA_ldn rfl rfl rfl ?_
    refine zA_push rfl rfl zkk3 ?_
    rcases zite_e H with ⟨c21, H⟩ | ⟨c21, H⟩
    · refine zA_brT (c := (3 : Int32) ≤ x3) rfl rfl rfl c21 ?_
      refine zA_tr (L := [none, none, none, none, none]) rfl rfl ?_
      cases H
      exact zA_ret rfl rfl
    · refine zA_brF (c := (3 : Int32) ≤ x3) rfl rfl rfl c21 ?_
      refine zA_aldn rfl rfl rfl ?_
      obtain ⟨p22, i23, e24, c25, H⟩ := zob_e H
      refine zA_gf3 rfl rfl e24 c25 ?_
      refine zA_ldn rfl rfl rfl ?_
      obtain ⟨p26, i27, j28, v33, e29, c30, c31, e32, e34, H⟩ := zra_e H
      refine zA_aal rfl rfl e29 c30 c31 e32 e34 ?_
      refine zA_ast2 rfl rfl rfl (zset1 (L' := [none, some (zrv x1), some (zrv x2), some (zI x3), some (zrv v33)]) (zcat_rv _) rfl (zpcV rfl rfl)) ?_
      refine zA_ald rfl rfl rfl ?_
      obtain ⟨p35, i36, e37, c38, H⟩ := zob_e H
      refine zA_gf3 rfl rfl e37 c38 ?_
      refine zA_aldn rfl rfl rfl ?_
      rcases zite_e H with ⟨c39, H⟩ | ⟨c39, H⟩
      · refine zA_brF' (c := (zr h p35 i36 1) = x1) rfl rfl zIf_ane c39 ?_
        refine zA_ald rfl rfl rfl ?_
        refine zA_ald rfl rfl rfl ?_
        refine zA_gf3 rfl rfl e37 c38 ?_
        refine zA_push rfl rfl zkk26 ?_
        refine zA_push rfl rfl zkk7 ?_
        rcases zb_e H with ⟨u41, h40, C, H⟩ | ⟨E, h40, C, H⟩
        · refine zA_callU (as := [zrv v33, zrv (zr h p35 i36 0), zrv (none : zq), zI (0 : Int32)]) (st' := []) rfl rfl rfl (zrcv_Q e37 c38) rfl (zmE29 _ _ _ _) rfl (zmS29 C) ?_
          exact zA_tr (L := [none, some (zrv x1), some (zrv x2), some (zI x3), none]) rfl rfl (zmS58_26 ih _ _ _ _ _ _ H)
        · cases H
          exact zA_callX (as := [zrv v33, zrv (zr h p35 i36 0), zrv (none : zq), zI (0 : Int32)]) (st' := []) rfl rfl (zrcv_Q e37 c38) rfl (zmE29 _ _ _ _) rfl rfl rfl (zmS29 C)
      · refine zA_brT' (c := (zr h p35 i36 1) = x1) rfl rfl zIf_ane c39 ?_
        exact zA_tr (L := [none, some (zrv x1), some (zrv x2), some (zI x3), none]) rfl rfl (zmS58_26 ih _ _ _ _ _ _ H)
-- 58: ReleaseHouse.dropCandidates(LReleaseHouse$Artefact;)V
def zm58 (x0 : zq) (x1 : zq) (h : zH) : zRs Unit :=
  zob 11 x0 fun p21 i22 =>
  zob 0 x1 fun p25 i26 =>
  zra (zr h p21 i22 6) (zi h p25 i26 1) h fun v36 =>
  zm58_8 zN0 x1 v36 (0 : Int32) h
theorem zmS58 {x0 : zq} {x1 : zq} {h : zH} {r : Unit ⊕ Nat} {h' : zH} (H : zm58 x0 x1 h = some (r, h')) : zAt 58 0 [some (zrv x0), some (zrv x1), none, none, none] [] h (zoU r) h' := by
  unfold zm58 at H
  refine zA_aldn rfl rfl rfl ?_
  obtain ⟨p21, i22, e23, c24, H⟩ := zob_e H
  refine zA_gf3 rfl rfl e23 c24 ?_
  refine zA_aldn rfl rfl rfl ?_
  obtain ⟨p25, i26, e27, c28, H⟩ := zob_e H
  refine zA_gf0 rfl rfl (Or.inl rfl) e27 c28 ?_
  obtain ⟨p29, i30, j31, v36, e32, c33, c34, e35, e37, H⟩ := zra_e H
  refine zA_aal rfl rfl e32 c33 c34 e35 e37 ?_
  refine zA_astn2 rfl rfl rfl (zset1 (L' := [some (zrv x0), some (zrv x1), some (zrv v36), none, none]) (zcat_rv _) rfl (zpcV rfl (zcat_rv _))) ?_
  refine zA_push rfl rfl zkk7 ?_
  refine zA_istn2 rfl rfl rfl (zset1 (L' := [some (zrv x0), some (zrv x1), some (zrv v36), some (zI (0 : Int32)), none]) rfl rfl (zpcV rfl (zcat_rv _))) ?_
  exact zA_tr (L := [none, some (zrv x1), some (zrv v36), some (zI (0 : Int32)), none]) rfl rfl (zmS58_8 zN0 _ _ _ _ _ _ H)
theorem zmE58 (x0 : zq) (x1 : zq) : zpad (zPr.2.1 58).1 (zil [zrv x0, zrv x1]) = [some (zrv x0), some (zrv x1), none, none, none] := by
  simp only [zil_A, zil_I, zil_F, zil_D, zil_N]
  rfl
def zm57_32 (x0 : zq) (x4 : zq) (x5 : zq) (x6 : zq) (s0 : zq) (h : zH) : zRs Int32 :=
  if x6 = none then
    some (.inl (0 : Int32), h)
  else
    zob 11 x0 fun p22 i23 =>
    zb (zm46 x0 x6 s0 h) fun x27 h26 =>
    if x27 = 0 then
      some (.inl (0 : Int32), h26)
    else
      zob 8 x4 fun p29 i30 =>
      zb (zm25 x4 x6 h26) fun x34 h33 =>
      if x34 = 0 then
        some (.inl (0 : Int32), h33)
      else
        zob 9 x5 fun p36 i37 =>
        zb (zm29 x5 x6 (zr h33 p36 i37 1) (zi h33 p36 i37 2) h33) fun _ h40 =>
        some (.inl (1 : Int32), h40)
theorem zmS57_32 : ∀ (x0 : zq) (x4 : zq) (x5 : zq) (x6 : zq) (s0 : zq) (h : zH) (r : Int32 ⊕ Nat) (h' : zH), zm57_32 x0 x4 x5 x6 s0 h = some (r, h') → zAt 57 32 [some (zrv x0), none, none, none, some (zrv x4), some (zrv x5), some (zrv x6), none] [zrv s0] h (zoI r) h' := by
  intro x0 x4 x5 x6 s0 h r h' H
  unfold zm57_32 at H
  refine zA_ast2 rfl rfl rfl (zset1 (L' := [some (zrv x0), none, none, none, some (zrv x4), some (zrv x5), some (zrv x6), some (zrv s0)]) (zcat_rv _) rfl (zpcV rfl (zcat_rv _))) ?_
  refine zA_ald rfl rfl rfl ?_
  rcases zite_e H with ⟨c21, H⟩ | ⟨c21, H⟩
  · refine zA_brT (c := x6 = none) rfl rfl zIf_null c21 ?_
    refine zA_tr (L := [none, none, none, none, none, none, none, none]) rfl rfl ?_
    refine zA_push rfl rfl zkk7 ?_
    cases H
    exact zA_ret rfl (zret_Z (by decide))
  · refine zA_brF (c := x6 = none) rfl rfl zIf_null c21 ?_
    refine zA_aldn rfl rfl rfl ?_
    refine zA_ald rfl rfl rfl ?_
    refine zA_ald rfl rfl rfl ?_
    obtain ⟨p22, i23, e24, c25, H⟩ := zob_e H
    rcases zb_e H with ⟨x27, h26, C, H⟩ | ⟨E, h26, C, H⟩
    · refine zA_callV (as := [zrv x0, zrv x6, zrv s0]) (st' := []) rfl rfl rfl (zrcv_Q e24 c25) rfl (zmE46 _ _ _) rfl (zmS46 C) ?_
      rcases zite_e H with ⟨c28, H⟩ | ⟨c28, H⟩
      · refine zA_brT (c := x27 = 0) rfl rfl rfl c28 ?_
        refine zA_tr (L := [none, none, none, none, none, none, none, none]) rfl rfl ?_
        refine zA_push rfl rfl zkk7 ?_
        cases H
        exact zA_ret rfl (zret_Z (by decide))
      · refine zA_brF (c := x27 = 0) rfl rfl rfl c28 ?_
        refine zA_ald rfl rfl rfl ?_
        refine zA_ald rfl rfl rfl ?_
        obtain ⟨p29, i30, e31, c32, H⟩ := zob_e H
        rcases zb_e H with ⟨x34, h33, C, H⟩ | ⟨E, h33, C, H⟩
        · refine zA_callV (as := [zrv x4, zrv x6]) (st' := []) rfl rfl rfl (zrcv_Q e31 c32) rfl (zmE25 _ _) rfl (zmS25 C) ?_
          rcases zite_e H with ⟨c35, H⟩ | ⟨c35, H⟩
          · refine zA_brF' (c := x34 = 0) rfl rfl rfl c35 ?_
            refine zA_tr (L := [none, none, none, none, none, none, none, none]) rfl rfl ?_
            refine zA_push rfl rfl zkk7 ?_
            cases H
            exact zA_ret rfl (zret_Z (by decide))
          · refine zA_brT' (c := x34 = 0) rfl rfl rfl c35 ?_
            refine zA_tr (L := [none, none, none, none, none, some (zrv x5), some (zrv x6), none]) rfl rfl ?_
            refine zA_ald rfl rfl rfl ?_
            refine zA_ald rfl rfl rfl ?_
            refine zA_ald rfl rfl rfl ?_
            obtain ⟨p36, i37, e38, c39, H⟩ := zob_e H
            refine zA_gf3 rfl rfl e38 c39 ?_
            refine zA_ald rfl rfl rfl ?_
            refine zA_gf0 rfl rfl (Or.inl rfl) e38 c39 ?_
            rcases zb_e H with ⟨u41, h40, C, H⟩ | ⟨E, h40, C, H⟩
            · refine zA_callU (as := [zrv x5, zrv x6, zrv (zr h33 p36 i37 1), zI (zi h33 p36 i37 2)]) (st' := []) rfl rfl rfl (zrcv_Q e38 c39) rfl (zmE29 _ _ _ _) rfl (zmS29 C) ?_
              refine zA_push rfl rfl zkk5 ?_
              cases H
              exact zA_ret rfl (zret_Z (by decide))
            · cases H
              exact zA_callX (as := [zrv x5, zrv x6, zrv (zr h33 p36 i37 1), zI (zi h33 p36 i37 2)]) (st' := []) rfl rfl (zrcv_Q e38 c39) rfl (zmE29 _ _ _ _) rfl rfl rfl (zmS29 C)
        · cases H
          exact zA_callX (as := [zrv x4, zrv x6]) (st' := []) rfl rfl (zrcv_Q e31 c32) rfl (zmE25 _ _) rfl rfl rfl (zmS25 C)
    · cases H
      exact zA_callX (as := [zrv x0, zrv x6, zrv s0]) (st' := []) rfl rfl (zrcv_Q e24 c25) rfl (zmE46 _ _ _) rfl rfl rfl (zmS46 C)
-- 57: ReleaseHouse.goesBack(LReleaseHouse$Release;I)Z
def zm57 (x0 : zq) (x1 : zq) (x2 : Int32) (h : zH) : zRs Int32 :=
  zob 5 x1 fun p21 i22 =>
  zlet (zr h p21 i22 0) fun x25 =>
  zob 11 x0 fun p27 i28 =>
  zob 0 x25 fun p31 i32 =>
  zra (zr h p27 i28 6) (zi h p31 i32 1) h fun v42 =>
  zob 8 v42 fun p44 i45 =>
  zra (zr h p44 i45 0) x2 h fun v55 =>
  zob 9 v55 fun p57 i58 =>
  if (zr h p57 i58 0) = x25 then
    zra (zr h p21 i22 10) x2 h fun v69 =>
    if (zi h p31 i32 10) = (1 : Int32) then
      zm57_32 x0 v42 v55 v69 x25 h
    else
      zm57_32 x0 v42 v55 v69 (none : zq) h
  else
    some (.inl (1 : Int32), h)
theorem zmS57 {x0 : zq} {x1 : zq} {x2 : Int32} {h : zH} {r : Int32 ⊕ Nat} {h' : zH} (H : zm57 x0 x1 x2 h = some (r, h')) : zAt 57 0 [some (zrv x0), some (zrv x1), some (zI x2), none, none, none, none, none] [] h (zoI r) h' := by
  unfold zm57 at H
  refine zA_aldn rfl rfl rfl ?_
  obtain ⟨p21, i22, e23, c24, H⟩ := zob_e H
  refine zA_gf3 rfl rfl e23 c24 ?_
  obtain ⟨x25, e26, H⟩ := zlet_e H
  refine zA_astn2 rfl rfl e26 (zset1 (L' := [some (zrv x0), some (zrv x1), some (zI x2), some (zrv x25), none, none, none, none]) (zcat_rv _) rfl (zpcV rfl rfl)) ?_
  refine zA_aldn rfl rfl rfl ?_
  obtain ⟨p27, i28, e29, c30, H⟩ := zob_e H
  refine zA_gf3 rfl rfl e29 c30 ?_
  refine zA_aldn rfl rfl rfl ?_
  obtain ⟨p31, i32, e33, c34, H⟩ := zob_e H
  refine zA_gf0 rfl rfl (Or.inl rfl) e33 c34 ?_
  obtain ⟨p35, i36, j37, v42, e38, c39, c40, e41, e43, H⟩ := zra_e H
  refine zA_aal rfl rfl e38 c39 c40 e41 e43 ?_
  refine zA_ast2 rfl rfl rfl (zset1 (L' := [some (zrv x0), some (zrv x1), some (zI x2), some (zrv x25), some (zrv v42), none, none, none]) (zcat_rv _) rfl (zpcV rfl (zcat_rv _))) ?_
  refine zA_ald rfl rfl rfl ?_
  obtain ⟨p44, i45, e46, c47, H⟩ := zob_e H
  refine zA_gf3 rfl rfl e46 c47 ?_
  refine zA_ldn rfl rfl rfl ?_
  obtain ⟨p48, i49, j50, v55, e51, c52, c53, e54, e56, H⟩ := zra_e H
  refine zA_aal rfl rfl e51 c52 c53 e54 e56 ?_
  refine zA_ast2 rfl rfl rfl (zset1 (L' := [some (zrv x0), some (zrv x1), some (zI x2), some (zrv x25), some (zrv v42), some (zrv v55), none, none]) (zcat_rv _) rfl (zpcV rfl (zcat_rv _))) ?_
  refine zA_ald rfl rfl rfl ?_
  obtain ⟨p57, i58, e59, c60, H⟩ := zob_e H
  refine zA_gf3 rfl rfl e59 c60 ?_
  refine zA_aldn rfl rfl rfl ?_
  rcases zite_e H with ⟨c61, H⟩ | ⟨c61, H⟩
  · refine zA_brT (c := (zr h p57 i58 0) = x25) rfl rfl zIf_aeq c61 ?_
    refine zA_aldn rfl rfl rfl ?_
    refine zA_gf3 rfl rfl e23 c24 ?_
    refine zA_ldn rfl rfl rfl ?_
    obtain ⟨p62, i63, j64, v69, e65, c66, c67, e68, e70, H⟩ := zra_e H
    refine zA_aal rfl rfl e65 c66 c67 e68 e70 ?_
    refine zA_ast2 rfl rfl rfl (zset1 (L' := [some (zrv x0), some (zrv x1), some (zI x2), some (zrv x25), some (zrv v42), some (zrv v55), some (zrv v69), none]) (zcat_rv _) rfl (zpcV rfl (zcat_rv _))) ?_
    refine zA_aldn rfl rfl rfl ?_
    refine zA_gf0 rfl rfl (Or.inl rfl) e33 c34 ?_
    refine zA_push rfl rfl zkk5 ?_
    rcases zite_e H with ⟨c71, H⟩ | ⟨c71, H⟩
    · refine zA_brF' (c := (zi h p31 i32 10) = (1 : Int32)) rfl rfl rfl c71 ?_
      refine zA_aldn rfl rfl rfl ?_
      refine zA_go rfl rfl ?_
      exact zA_tr (L := [some (zrv x0), none, none, none, some (zrv v42), some (zrv v55), some (zrv v69), none]) rfl rfl (zmS57_32 _ _ _ _ _ _ _ _ H)
    · refine zA_brT' (c := (zi h p31 i32 10) = (1 : Int32)) rfl rfl rfl c71 ?_
      refine zA_tr (L := [some (zrv x0), none, none, none, some (zrv v42), some (zrv v55), some (zrv v69), none]) rfl rfl ?_
      refine zA_push rfl rfl zkk26 ?_
      exact zA_tr (L := [some (zrv x0), none, none, none, some (zrv v42), some (zrv v55), some (zrv v69), none]) rfl rfl (zmS57_32 _ _ _ _ _ _ _ _ H)
  · refine zA_brF (c := (zr h p57 i58 0) = x25) rfl rfl zIf_aeq c61 ?_
    refine zA_push rfl rfl zkk5 ?_
    cases H
    exact zA_ret rfl (zret_Z (by decide))
theorem zmE57 (x0 : zq) (x1 : zq) (x2 : Int32) : zpad (zPr.2.1 57).1 (zil [zrv x0, zrv x1, zI x2]) = [some (zrv x0), some (zrv x1), some (zI x2), none, none, none, none, none] := by
  simp only [zil_A, zil_I, zil_F, zil_D, zil_N]
  rfl
-- 11: ReleaseHouse$Release.comeTo(II)V
def zm11 (x0 : zq) (x1 : Int32) (x2 : Int32) (h : zH) : zRs Unit :=
  zob 5 x0 fun p21 i22 =>
  zlet (zsi h p21 i22 3 x1) fun h25 =>
  zlet (zsi h25 p21 i22 4 x2) fun h27 =>
  zlet (zsi h27 p21 i22 8 (0 : Int32)) fun h29 =>
  some (.inl (), h29)
theorem zmS11 {x0 : zq} {x1 : Int32} {x2 : Int32} {h : zH} {r : Unit ⊕ Nat} {h' : zH} (H : zm11 x0 x1 x2 h = some (r, h')) : zAt 11 0 [some (zrv x0), some (zI x1), some (zI x2)] [] h (zoU r) h' := by
  unfold zm11 at H
  refine zA_aldn rfl rfl rfl ?_
  refine zA_ldn rfl rfl rfl ?_
  obtain ⟨p21, i22, e23, c24, H⟩ := zob_e H
  obtain ⟨h25, e26, H⟩ := zlet_e H
  refine zA_pf0 rfl rfl e23 c24 e26 ?_
  refine zA_aldn rfl rfl rfl ?_
  refine zA_ldn rfl rfl rfl ?_
  obtain ⟨h27, e28, H⟩ := zlet_e H
  refine zA_pf0 rfl rfl e23 c24 e28 ?_
  refine zA_aldn rfl rfl rfl ?_
  refine zA_push rfl rfl zkk7 ?_
  obtain ⟨h29, e30, H⟩ := zlet_e H
  refine zA_pf1 rfl rfl e23 c24 (by decide) e30 ?_
  cases H
  exact zA_ret rfl rfl
theorem zmE11 (x0 : zq) (x1 : Int32) (x2 : Int32) : zpad (zPr.2.1 11).1 (zil [zrv x0, zI x1, zI x2]) = [some (zrv x0), some (zI x1), some (zI x2)] := by
  simp only [zil_A, zil_I, zil_F, zil_D, zil_N]
  rfl
def zm59_40 (k10 : zq → zq → Int32 → zH → zRs Unit) (x0 : zq) (x1 : zq) (x3 : Int32) (h : zH) : zRs Unit :=
  zlet (x3 + (1 : Int32)) fun x21 =>
  k10 x0 x1 x21 h
theorem zmS59_40 {k10 : zq → zq → Int32 → zH → zRs Unit} (hk10 : ∀ (x0 : zq) (x1 : zq) (x3 : Int32) (h : zH) (r : Unit ⊕ Nat) (h' : zH), k10 x0 x1 x3 h = some (r, h') → zAt 59 10 [some (zrv x0), some (zrv x1), none, some (zI x3), none] [] h (zoU r) h') : ∀ (x0 : zq) (x1 : zq) (x3 : Int32) (h : zH) (r : Unit ⊕ Nat) (h' : zH), zm59_40 k10 x0 x1 x3 h = some (r, h') → zAt 59 40 [some (zrv x0), some (zrv x1), none, some (zI x3), none] [] h (zoU r) h' := by
  intro x0 x1 x3 h r h' H
  unfold zm59_40 at H
  obtain ⟨x21, e22, H⟩ := zlet_e H
  refine zA_inc rfl rfl rfl (e22.trans (congrArg (_ + ·) zkk8)) (zset1 (L' := [some (zrv x0), some (zrv x1), none, some (zI x21), none]) rfl rfl (zpcN rfl)) ?_
  refine zA_go rfl rfl ?_
  exact zA_tr (L := [some (zrv x0), some (zrv x1), none, some (zI x21), none]) rfl rfl (hk10 _ _ _ _ _ _ H)
def zm59_10 : Nat → zq → zq → Int32 → zH → zRs Unit
  | 0, _, _, _, _ => none
  | n + 1, x0, x1, x3, h =>
    zob 11 x0 fun p21 i22 =>
    zlz (zr h p21 i22 2) h fun v30 =>
    if v30 ≤ x3 then
      some (.inl (), h)
    else
      zlg (zr h p21 i22 2) x3 h fun v39 =>
      zob 5 v39 fun p41 i42 =>
      if (zi h p41 i42 2) = (1 : Int32) then
        zob 0 (zr h p41 i42 0) fun p46 i47 =>
        zob 5 x1 fun p50 i51 =>
        zob 0 (zr h p50 i51 0) fun p54 i55 =>
        if (zi h p46 i47 1) = (zi h p54 i55 1) then
          zlet (zsi h p41 i42 2 (0 : Int32)) fun h59 =>
          zb (zm11 v39 (0 : Int32) (zi h59 p21 i22 11) h59) fun _ h61 =>
          zm59_40 (zm59_10 n) x0 x1 x3 h61
        else
          zm59_40 (zm59_10 n) x0 x1 x3 h
      else
        zm59_40 (zm59_10 n) x0 x1 x3 h
theorem zmS59_10 : ∀ (n : Nat) (x0 : zq) (x1 : zq) (x3 : Int32) (h : zH) (r : Unit ⊕ Nat) (h' : zH), zm59_10 n x0 x1 x3 h = some (r, h') → zAt 59 10 [some (zrv x0), some (zrv x1), none, some (zI x3), none] [] h (zoU r) h' := by
  intro n
  induction n with
  | zero => intro x0 x1 x3 h r h' H; cases H
  | succ n ih =>
    intro x0 x1 x3 h r h' H
    unfold zm59_10 at H
    refine zA_ldn rfl rfl rfl ?_
    refine zA_aldn rfl rfl rfl ?_
    obtain ⟨p21, i22, e23, c24, H⟩ := zob_e H
    refine zA_gf3 rfl rfl e23 c24 ?_
    obtain ⟨p25, i26, v30, e27, c28, c29, e31, H⟩ := zlz_e H
    refine zA_l2 rfl rfl rfl e27 c28 c29 e31 ?_
    rcases zite_e H with ⟨c32, H⟩ | ⟨c32, H⟩
    · refine zA_brT (c := v30 ≤ x3) rfl rfl rfl c32 ?_
      refine zA_tr (L := [none, none, none, none, none]) rfl rfl ?_
      cases H
      exact zA_ret rfl rfl
    · refine zA_brF (c := v30 ≤ x3) rfl rfl rfl c32 ?_
      refine zA_aldn rfl rfl rfl ?_
      refine zA_gf3 rfl rfl e23 c24 ?_
      refine zA_ldn rfl rfl rfl ?_
      obtain ⟨p33, i34, v39, e35, c36, c37, c38, e40, H⟩ := zlg_e H
      refine zA_l3 rfl rfl rfl e35 c36 c37 c38 e40 ?_
      obtain ⟨p41, i42, e43, c44, H⟩ := zob_e H
      refine zA_cast rfl rfl e43 c44 ?_
      refine zA_ast2 rfl rfl rfl (zset1 (L' := [some (zrv x0), some (zrv x1), none, some (zI x3), some (zrv v39)]) (zcat_rv _) rfl (zpcV rfl rfl)) ?_
      refine zA_ald rfl rfl rfl ?_
      refine zA_gf0 rfl rfl (Or.inl rfl) e43 c44 ?_
      refine zA_push rfl rfl zkk5 ?_
      rcases zite_e H with ⟨c45, H⟩ | ⟨c45, H⟩
      · refine zA_brF' (c := (zi h p41 i42 2) = (1 : Int32)) rfl rfl rfl c45 ?_
        refine zA_ald rfl rfl rfl ?_
        refine zA_gf3 rfl rfl e43 c44 ?_
        obtain ⟨p46, i47, e48, c49, H⟩ := zob_e H
        refine zA_gf0 rfl rfl (Or.inl rfl) e48 c49 ?_
        refine zA_aldn rfl rfl rfl ?_
        obtain ⟨p50, i51, e52, c53, H⟩ := zob_e H
        refine zA_gf3 rfl rfl e52 c53 ?_
        obtain ⟨p54, i55, e56, c57, H⟩ := zob_e H
        refine zA_gf0 rfl rfl (Or.inl rfl) e56 c57 ?_
        rcases zite_e H with ⟨c58, H⟩ | ⟨c58, H⟩
        · refine zA_brF' (c := (zi h p46 i47 1) = (zi h p54 i55 1)) rfl rfl rfl c58 ?_
          refine zA_ald rfl rfl rfl ?_
          refine zA_push rfl rfl zkk7 ?_
          obtain ⟨h59, e60, H⟩ := zlet_e H
          refine zA_pf0 rfl rfl e43 c44 e60 ?_
          refine zA_ald rfl rfl rfl ?_
          refine zA_push rfl rfl zkk7 ?_
          refine zA_aldn rfl rfl rfl ?_
          refine zA_gf0 rfl rfl (Or.inl rfl) e23 c24 ?_
          rcases zb_e H with ⟨u62, h61, C, H⟩ | ⟨E, h61, C, H⟩
          · refine zA_callU (as := [zrv v39, zI (0 : Int32), zI (zi h59 p21 i22 11)]) (st' := []) rfl rfl rfl (zrcv_Q e43 c44) rfl (zmE11 _ _ _) rfl (zmS11 C) ?_
            exact zA_tr (L := [some (zrv x0), some (zrv x1), none, some (zI x3), none]) rfl rfl (zmS59_40 ih _ _ _ _ _ _ H)
          · cases H
            exact zA_callX (as := [zrv v39, zI (0 : Int32), zI (zi h59 p21 i22 11)]) (st' := []) rfl rfl (zrcv_Q e43 c44) rfl (zmE11 _ _ _) rfl rfl rfl (zmS11 C)
        · refine zA_brT' (c := (zi h p46 i47 1) = (zi h p54 i55 1)) rfl rfl rfl c58 ?_
          exact zA_tr (L := [some (zrv x0), some (zrv x1), none, some (zI x3), none]) rfl rfl (zmS59_40 ih _ _ _ _ _ _ H)
      · refine zA_brT' (c := (zi h p41 i42 2) = (1 : Int32)) rfl rfl rfl c45 ?_
        exact zA_tr (L := [some (zrv x0), some (zrv x1), none, some (zI x3), none]) rfl rfl (zmS59_40 ih _ _ _ _ _ _ H)
-- 59: ReleaseHouse.bringToEnd(LReleaseHouse$Release;I)V
def zm59 (x0 : zq) (x1 : zq) (x2 : Int32) (h : zH) : zRs Unit :=
  zob 5 x1 fun p21 i22 =>
  zlet (zsi h p21 i22 2 x2) fun h25 =>
  zob 0 (zr h25 p21 i22 0) fun p27 i28 =>
  if (zi h25 p27 i28 8) = 0 then
    some (.inl (), h25)
  else
    zm59_10 zN0 x0 x1 (0 : Int32) h25
theorem zmS59 {x0 : zq} {x1 : zq} {x2 : Int32} {h : zH} {r : Unit ⊕ Nat} {h' : zH} (H : zm59 x0 x1 x2 h = some (r, h')) : zAt 59 0 [some (zrv x0), some (zrv x1), some (zI x2), none, none] [] h (zoU r) h' := by
  unfold zm59 at H
  refine zA_aldn rfl rfl rfl ?_
  refine zA_ldn rfl rfl rfl ?_
  obtain ⟨p21, i22, e23, c24, H⟩ := zob_e H
  obtain ⟨h25, e26, H⟩ := zlet_e H
  refine zA_pf0 rfl rfl e23 c24 e26 ?_
  refine zA_aldn rfl rfl rfl ?_
  refine zA_gf3 rfl rfl e23 c24 ?_
  obtain ⟨p27, i28, e29, c30, H⟩ := zob_e H
  refine zA_gf0 rfl rfl (Or.inr rfl) e29 c30 ?_
  rcases zite_e H with ⟨c31, H⟩ | ⟨c31, H⟩
  · refine zA_brF' (c := (zi h25 p27 i28 8) = 0) rfl rfl rfl c31 ?_
    cases H
    exact zA_ret rfl rfl
  · refine zA_brT' (c := (zi h25 p27 i28 8) = 0) rfl rfl rfl c31 ?_
    refine zA_tr (L := [some (zrv x0), some (zrv x1), none, none, none]) rfl rfl ?_
    refine zA_push rfl rfl zkk7 ?_
    refine zA_istn2 rfl rfl rfl (zset1 (L' := [some (zrv x0), some (zrv x1), none, some (zI (0 : Int32)), none]) rfl rfl (zpcN rfl)) ?_
    exact zA_tr (L := [some (zrv x0), some (zrv x1), none, some (zI (0 : Int32)), none]) rfl rfl (zmS59_10 zN0 _ _ _ _ _ _ H)
theorem zmE59 (x0 : zq) (x1 : zq) (x2 : Int32) : zpad (zPr.2.1 59).1 (zil [zrv x0, zrv x1, zI x2]) = [some (zrv x0), some (zrv x1), some (zI x2), none, none] := by
  simp only [zil_A, zil_I, zil_F, zil_D, zil_N]
  rfl
def zm56_22 (k8 : zq → zq → Int32 → Int32 → zH → zRs Int32) (x0 : zq) (x1 : zq) (x2 : Int32) (x3 : Int32) (h : zH) : zRs Int32 :=
  zlet (x3 + (1 : Int32)) fun x21 =>
  k8 x0 x1 x2 x21 h
theorem zmS56_22 {k8 : zq → zq → Int32 → Int32 → zH → zRs Int32} (hk8 : ∀ (x0 : zq) (x1 : zq) (x2 : Int32) (x3 : Int32) (h : zH) (r : Int32 ⊕ Nat) (h' : zH), k8 x0 x1 x2 x3 h = some (r, h') → zAt 56 8 [some (zrv x0), some (zrv x1), some (zI x2), some (zI x3)] [] h (zoI r) h') : ∀ (x0 : zq) (x1 : zq) (x2 : Int32) (x3 : Int32) (h : zH) (r : Int32 ⊕ Nat) (h' : zH), zm56_22 k8 x0 x1 x2 x3 h = some (r, h') → zAt 56 22 [some (zrv x0), some (zrv x1), some (zI x2), some (zI x3)] [] h (zoI r) h' := by
  intro x0 x1 x2 x3 h r h' H
  unfold zm56_22 at H
  obtain ⟨x21, e22, H⟩ := zlet_e H
  refine zA_inc rfl rfl rfl (e22.trans (congrArg (_ + ·) zkk8)) (zset1 (L' := [some (zrv x0), some (zrv x1), some (zI x2), some (zI x21)]) rfl rfl (zpcV rfl rfl)) ?_
  refine zA_go rfl rfl ?_
  exact zA_tr (L := [some (zrv x0), some (zrv x1), some (zI x2), some (zI x21)]) rfl rfl (hk8 _ _ _ _ _ _ _ H)
def zm56_8 (k24 : zq → zq → Int32 → zH → zRs Int32) : Nat → zq → zq → Int32 → Int32 → zH → zRs Int32
  | 0, _, _, _, _, _ => none
  | n + 1, x0, x1, x2, x3, h =>
    if (3 : Int32) ≤ x3 then
      k24 x0 x1 x2 h
    else
      zob 5 x1 fun p22 i23 =>
      zrb (zr h p22 i23 9) x3 h fun v33 =>
      if v33 = 0 then
        zm56_22 (zm56_8 k24 n) x0 x1 x2 x3 h
      else
        zob 11 x0 fun p36 i37 =>
        zb (zm57 x0 x1 x3 h) fun x41 h40 =>
        if x41 = 0 then
          zlet (x2 + (1 : Int32)) fun x43 =>
          zm56_22 (zm56_8 k24 n) x0 x1 x43 x3 h40
        else
          zm56_22 (zm56_8 k24 n) x0 x1 x2 x3 h40
theorem zmS56_8 {k24 : zq → zq → Int32 → zH → zRs Int32} (hk24 : ∀ (x0 : zq) (x1 : zq) (x2 : Int32) (h : zH) (r : Int32 ⊕ Nat) (h' : zH), k24 x0 x1 x2 h = some (r, h') → zAt 56 24 [some (zrv x0), some (zrv x1), some (zI x2), none] [] h (zoI r) h') : ∀ (n : Nat) (x0 : zq) (x1 : zq) (x2 : Int32) (x3 : Int32) (h : zH) (r : Int32 ⊕ Nat) (h' : zH), zm56_8 k24 n x0 x1 x2 x3 h = some (r, h') → zAt 56 8 [some (zrv x0), some (zrv x1), some (zI x2), some (zI x3)] [] h (zoI r) h' := by
  intro n
  induction n with
  | zero => intro x0 x1 x2 x3 h r h' H; cases H
  | succ n ih =>
    intro x0 x1 x2 x3 h r h' H
    unfold zm56_8 at H
    refine zA_ldn rfl rfl rfl ?_
    refine zA_push rfl rfl zkk3 ?_
    rcases zite_e H with ⟨c21, H⟩ | ⟨c21, H⟩
    · refine zA_brT (c := (3 : Int32) ≤ x3) rfl rfl rfl c21 ?_
      exact zA_tr (L := [some (zrv x0), some (zrv x1), some (zI x2), none]) rfl rfl (hk24 _ _ _ _ _ _ H)
    · refine zA_brF (c := (3 : Int32) ≤ x3) rfl rfl rfl c21 ?_
      refine zA_aldn rfl rfl rfl ?_
      obtain ⟨p22, i23, e24, c25, H⟩ := zob_e H
      refine zA_gf3 rfl rfl e24 c25 ?_
      refine zA_ldn rfl rfl rfl ?_
      obtain ⟨p26, i27, j28, v33, e29, c30, c31, e32, e34, H⟩ := zrb_e H
      refine zA_bal rfl rfl e29 c30 c31 e32 e34 ?_
      rcases zite_e H with ⟨c35, H⟩ | ⟨c35, H⟩
      · refine zA_brT (c := v33 = 0) rfl rfl rfl c35 ?_
        exact zA_tr (L := [some (zrv x0), some (zrv x1), some (zI x2), some (zI x3)]) rfl rfl (zmS56_22 ih _ _ _ _ _ _ _ H)
      · refine zA_brF (c := v33 = 0) rfl rfl rfl c35 ?_
        refine zA_aldn rfl rfl rfl ?_
        refine zA_aldn rfl rfl rfl ?_
        refine zA_ldn rfl rfl rfl ?_
        obtain ⟨p36, i37, e38, c39, H⟩ := zob_e H
        rcases zb_e H with ⟨x41, h40, C, H⟩ | ⟨E, h40, C, H⟩
        · refine zA_callV (as := [zrv x0, zrv x1, zI x3]) (st' := []) rfl rfl rfl (zrcv_Q e38 c39) rfl (zmE57 _ _ _) rfl (zmS57 C) ?_
          rcases zite_e H with ⟨c42, H⟩ | ⟨c42, H⟩
          · refine zA_brF' (c := x41 = 0) rfl rfl rfl c42 ?_
            obtain ⟨x43, e44, H⟩ := zlet_e H
            refine zA_inc rfl rfl rfl (e44.trans (congrArg (_ + ·) zkk8)) (zset1 (L' := [some (zrv x0), some (zrv x1), some (zI x43), some (zI x3)]) rfl rfl (zpcV rfl (zcat_rv _))) ?_
            exact zA_tr (L := [some (zrv x0), some (zrv x1), some (zI x43), some (zI x3)]) rfl rfl (zmS56_22 ih _ _ _ _ _ _ _ H)
          · refine zA_brT' (c := x41 = 0) rfl rfl rfl c42 ?_
            exact zA_tr (L := [some (zrv x0), some (zrv x1), some (zI x2), some (zI x3)]) rfl rfl (zmS56_22 ih _ _ _ _ _ _ _ H)
        · cases H
          exact zA_callX (as := [zrv x0, zrv x1, zI x3]) (st' := []) rfl rfl (zrcv_Q e38 c39) rfl (zmE57 _ _ _) rfl rfl rfl (zmS57 C)
def zm56_24 (x0 : zq) (x1 : zq) (x2 : Int32) (h : zH) : zRs Int32 :=
  zob 11 x0 fun p21 i22 =>
  zb (zm59 x0 x1 (3 : Int32) h) fun _ h25 =>
  some (.inl x2, h25)
theorem zmS56_24 : ∀ (x0 : zq) (x1 : zq) (x2 : Int32) (h : zH) (r : Int32 ⊕ Nat) (h' : zH), zm56_24 x0 x1 x2 h = some (r, h') → zAt 56 24 [some (zrv x0), some (zrv x1), some (zI x2), none] [] h (zoI r) h' := by
  intro x0 x1 x2 h r h' H
  unfold zm56_24 at H
  refine zA_aldn rfl rfl rfl ?_
  refine zA_aldn rfl rfl rfl ?_
  refine zA_push rfl rfl zkk3 ?_
  obtain ⟨p21, i22, e23, c24, H⟩ := zob_e H
  rcases zb_e H with ⟨u26, h25, C, H⟩ | ⟨E, h25, C, H⟩
  · refine zA_callU (as := [zrv x0, zrv x1, zI (3 : Int32)]) (st' := []) rfl rfl rfl (zrcv_Q e23 c24) rfl (zmE59 _ _ _) rfl (zmS59 C) ?_
    refine zA_ldn rfl rfl rfl ?_
    cases H
    exact zA_ret rfl rfl
  · cases H
    exact zA_callX (as := [zrv x0, zrv x1, zI (3 : Int32)]) (st' := []) rfl rfl (zrcv_Q e23 c24) rfl (zmE59 _ _ _) rfl rfl rfl (zmS59 C)
-- 56: ReleaseHouse.bringToStop(LReleaseHouse$Release;)I
def zm56 (x0 : zq) (x1 : zq) (h : zH) : zRs Int32 :=
  zob 5 x1 fun p21 i22 =>
  zob 11 x0 fun p25 i26 =>
  zb (zm58 x0 (zr h p21 i22 0) h) fun _ h29 =>
  zm56_8 (zm56_24) zN0 x0 x1 (0 : Int32) (0 : Int32) h29
theorem zmS56 {x0 : zq} {x1 : zq} {h : zH} {r : Int32 ⊕ Nat} {h' : zH} (H : zm56 x0 x1 h = some (r, h')) : zAt 56 0 [some (zrv x0), some (zrv x1), none, none] [] h (zoI r) h' := by
  unfold zm56 at H
  refine zA_aldn rfl rfl rfl ?_
  refine zA_aldn rfl rfl rfl ?_
  obtain ⟨p21, i22, e23, c24, H⟩ := zob_e H
  refine zA_gf3 rfl rfl e23 c24 ?_
  obtain ⟨p25, i26, e27, c28, H⟩ := zob_e H
  rcases zb_e H with ⟨u30, h29, C, H⟩ | ⟨E, h29, C, H⟩
  · refine zA_callU (as := [zrv x0, zrv (zr h p21 i22 0)]) (st' := []) rfl rfl rfl (zrcv_Q e27 c28) rfl (zmE58 _ _) rfl (zmS58 C) ?_
    refine zA_push rfl rfl zkk7 ?_
    refine zA_istn2 rfl rfl rfl (zset1 (L' := [some (zrv x0), some (zrv x1), some (zI (0 : Int32)), none]) rfl rfl (zpcV rfl (zcat_rv _))) ?_
    refine zA_push rfl rfl zkk7 ?_
    refine zA_istn2 rfl rfl rfl (zset1 (L' := [some (zrv x0), some (zrv x1), some (zI (0 : Int32)), some (zI (0 : Int32))]) rfl rfl (zpcV rfl rfl)) ?_
    exact zA_tr (L := [some (zrv x0), some (zrv x1), some (zI (0 : Int32)), some (zI (0 : Int32))]) rfl rfl (zmS56_8 (zmS56_24) zN0 _ _ _ _ _ _ _ H)
  · cases H
    exact zA_callX (as := [zrv x0, zrv (zr h p21 i22 0)]) (st' := []) rfl rfl (zrcv_Q e27 c28) rfl (zmE58 _ _) rfl rfl rfl (zmS58 C)
theorem zmE56 (x0 : zq) (x1 : zq) : zpad (zPr.2.1 56).1 (zil [zrv x0, zrv x1]) = [some (zrv x0), some (zrv x1), none, none] := by
  simp only [zil_A, zil_I, zil_F, zil_D, zil_N]
  rfl
def zm60_22 (k2 : zq → zq → Int32 → zH → zRs Unit) (x0 : zq) (x1 : zq) (x2 : Int32) (h : zH) : zRs Unit :=
  zlet (x2 + (1 : Int32)) fun x21 =>
  k2 x0 x1 x21 h
theorem zmS60_22 {k2 : zq → zq → Int32 → zH → zRs Unit} (hk2 : ∀ (x0 : zq) (x1 : zq) (x2 : Int32) (h : zH) (r : Unit ⊕ Nat) (h' : zH), k2 x0 x1 x2 h = some (r, h') → zAt 60 2 [some (zrv x0), some (zrv x1), some (zI x2), none] [] h (zoU r) h') : ∀ (x0 : zq) (x1 : zq) (x2 : Int32) (h : zH) (r : Unit ⊕ Nat) (h' : zH), zm60_22 k2 x0 x1 x2 h = some (r, h') → zAt 60 22 [some (zrv x0), some (zrv x1), some (zI x2), none] [] h (zoU r) h' := by
  intro x0 x1 x2 h r h' H
  unfold zm60_22 at H
  obtain ⟨x21, e22, H⟩ := zlet_e H
  refine zA_inc rfl rfl rfl (e22.trans (congrArg (_ + ·) zkk8)) (zset1 (L' := [some (zrv x0), some (zrv x1), some (zI x21), none]) rfl rfl (zpcV rfl (zcat_rv _))) ?_
  refine zA_go rfl rfl ?_
  exact zA_tr (L := [some (zrv x0), some (zrv x1), some (zI x21), none]) rfl rfl (hk2 _ _ _ _ _ _ H)
def zm60_2 : Nat → zq → zq → Int32 → zH → zRs Unit
  | 0, _, _, _, _ => none
  | n + 1, x0, x1, x2, h =>
    if (3 : Int32) ≤ x2 then
      some (.inl (), h)
    else
      zob 8 x1 fun p22 i23 =>
      zra (zr h p22 i23 0) x2 h fun v33 =>
      zob 9 v33 fun p35 i36 =>
      if (zi h p35 i36 3) = 0 then
        zm60_22 (zm60_2 n) x0 x1 x2 h
      else
        zob 11 x0 fun p40 i41 =>
        zlet (zsi h p40 i41 14 ((zi h p40 i41 14) + (1 : Int32))) fun h44 =>
        zlet (zsi h44 p35 i36 3 (0 : Int32)) fun h46 =>
        zm60_22 (zm60_2 n) x0 x1 x2 h46
theorem zmS60_2 : ∀ (n : Nat) (x0 : zq) (x1 : zq) (x2 : Int32) (h : zH) (r : Unit ⊕ Nat) (h' : zH), zm60_2 n x0 x1 x2 h = some (r, h') → zAt 60 2 [some (zrv x0), some (zrv x1), some (zI x2), none] [] h (zoU r) h' := by
  intro n
  induction n with
  | zero => intro x0 x1 x2 h r h' H; cases H
  | succ n ih =>
    intro x0 x1 x2 h r h' H
    unfold zm60_2 at H
    refine zA_ldn rfl rfl rfl ?_
    refine zA_push rfl rfl zkk3 ?_
    rcases zite_e H with ⟨c21, H⟩ | ⟨c21, H⟩
    · refine zA_brT (c := (3 : Int32) ≤ x2) rfl rfl rfl c21 ?_
      refine zA_tr (L := [none, none, none, none]) rfl rfl ?_
      cases H
      exact zA_ret rfl rfl
    · refine zA_brF (c := (3 : Int32) ≤ x2) rfl rfl rfl c21 ?_
      refine zA_aldn rfl rfl rfl ?_
      obtain ⟨p22, i23, e24, c25, H⟩ := zob_e H
      refine zA_gf3 rfl rfl e24 c25 ?_
      refine zA_ldn rfl rfl rfl ?_
      obtain ⟨p26, i27, j28, v33, e29, c30, c31, e32, e34, H⟩ := zra_e H
      refine zA_aal rfl rfl e29 c30 c31 e32 e34 ?_
      refine zA_astn2 rfl rfl rfl (zset1 (L' := [some (zrv x0), some (zrv x1), some (zI x2), some (zrv v33)]) (zcat_rv _) rfl (zpcV rfl rfl)) ?_
      refine zA_aldn rfl rfl rfl ?_
      obtain ⟨p35, i36, e37, c38, H⟩ := zob_e H
      refine zA_gf0 rfl rfl (Or.inr rfl) e37 c38 ?_
      rcases zite_e H with ⟨c39, H⟩ | ⟨c39, H⟩
      · refine zA_brT (c := (zi h p35 i36 3) = 0) rfl rfl rfl c39 ?_
        exact zA_tr (L := [some (zrv x0), some (zrv x1), some (zI x2), none]) rfl rfl (zmS60_22 ih _ _ _ _ _ _ H)
      · refine zA_brF (c := (zi h p35 i36 3) = 0) rfl rfl rfl c39 ?_
        refine zA_aldn rfl rfl rfl ?_
        refine zA_dup rfl rfl (zcat_rv _) ?_
        obtain ⟨p40, i41, e42, c43, H⟩ := zob_e H
        refine zA_gf0 rfl rfl (Or.inl rfl) e42 c43 ?_
        refine zA_push rfl rfl zkk5 ?_
        refine zA_st (st' := [zI ((zi h p40 i41 14) + (1 : Int32)), zrv x0]) rfl rfl rfl rfl ?_
        obtain ⟨h44, e45, H⟩ := zlet_e H
        refine zA_pf0 rfl rfl e42 c43 e45 ?_
        refine zA_aldn rfl rfl rfl ?_
        refine zA_push rfl rfl zkk7 ?_
        obtain ⟨h46, e47, H⟩ := zlet_e H
        refine zA_pf1 rfl rfl e37 c38 (by decide) e47 ?_
        exact zA_tr (L := [some (zrv x0), some (zrv x1), some (zI x2), none]) rfl rfl (zmS60_22 ih _ _ _ _ _ _ H)
-- 60: ReleaseHouse.countEffects(LReleaseHouse$Service;)V
def zm60 (x0 : zq) (x1 : zq) (h : zH) : zRs Unit :=
  zm60_2 zN0 x0 x1 (0 : Int32) h
theorem zmS60 {x0 : zq} {x1 : zq} {h : zH} {r : Unit ⊕ Nat} {h' : zH} (H : zm60 x0 x1 h = some (r, h')) : zAt 60 0 [some (zrv x0), some (zrv x1), none, none] [] h (zoU r) h' := by
  unfold zm60 at H
  refine zA_push rfl rfl zkk7 ?_
  refine zA_istn2 rfl rfl rfl (zset1 (L' := [some (zrv x0), some (zrv x1), some (zI (0 : Int32)), none]) rfl rfl (zpcV rfl (zcat_rv _))) ?_
  exact zA_tr (L := [some (zrv x0), some (zrv x1), some (zI (0 : Int32)), none]) rfl rfl (zmS60_2 zN0 _ _ _ _ _ _ H)
theorem zmE60 (x0 : zq) (x1 : zq) : zpad (zPr.2.1 60).1 (zil [zrv x0, zrv x1]) = [some (zrv x0), some (zrv x1), none, none] := by
  simp only [zil_A, zil_I, zil_F, zil_D, zil_N]
  rfl
-- 55: ReleaseHouse.stop(I)I
def zm55 (x0 : zq) (x1 : Int32) (h : zH) : zRs Int32 :=
  zob 11 x0 fun p21 i22 =>
  zlz (zr h p21 i22 2) h fun v30 =>
  zb (zm130 x1 v30 h) fun _ h32 =>
  zlg (zr h32 p21 i22 2) x1 h32 fun v39 =>
  zob 5 v39 fun p41 i42 =>
  zb (zm10 v39 h32) fun x46 h45 =>
  if x46 = 0 then
    zb (zm56 x0 v39 h45) fun x49 h48 =>
    zob 0 (zr h48 p41 i42 0) fun p50 i51 =>
    zra (zr h48 p21 i22 6) (zi h48 p50 i51 1) h48 fun v61 =>
    zb (zm60 x0 v61 h48) fun _ h63 =>
    some (.inl x49, h63)
  else
    some (.inr 1, zro h45 1 6)
theorem zmS55 {x0 : zq} {x1 : Int32} {h : zH} {r : Int32 ⊕ Nat} {h' : zH} (H : zm55 x0 x1 h = some (r, h')) : zAt 55 0 [some (zrv x0), some (zI x1), none, none] [] h (zoI r) h' := by
  unfold zm55 at H
  refine zA_ldn rfl rfl rfl ?_
  refine zA_aldn rfl rfl rfl ?_
  obtain ⟨p21, i22, e23, c24, H⟩ := zob_e H
  refine zA_gf3 rfl rfl e23 c24 ?_
  obtain ⟨p25, i26, v30, e27, c28, c29, e31, H⟩ := zlz_e H
  refine zA_l2 rfl rfl rfl e27 c28 c29 e31 ?_
  rcases zb_e H with ⟨u65, h32, C, H⟩ | ⟨E, h32, C, H⟩
  · refine zA_callU (as := [zI x1, zI v30]) (st' := []) rfl rfl rfl rfl rfl (zmE130 _ _) rfl (zmS130 C) ?_
    refine zA_aldn rfl rfl rfl ?_
    refine zA_gf3 rfl rfl e23 c24 ?_
    refine zA_ldn rfl rfl rfl ?_
    obtain ⟨p33, i34, v39, e35, c36, c37, c38, e40, H⟩ := zlg_e H
    refine zA_l3 rfl rfl rfl e35 c36 c37 c38 e40 ?_
    obtain ⟨p41, i42, e43, c44, H⟩ := zob_e H
    refine zA_cast rfl rfl e43 c44 ?_
    refine zA_astn2 rfl rfl rfl (zset1 (L' := [some (zrv x0), some (zI x1), some (zrv v39), none]) (zcat_rv _) rfl (zpcV rfl rfl)) ?_
    refine zA_aldn rfl rfl rfl ?_
    rcases zb_e H with ⟨x46, h45, C, H⟩ | ⟨E, h45, C, H⟩
    · refine zA_callV (as := [zrv v39]) (st' := []) rfl rfl rfl (zrcv_Q e43 c44) rfl (zmE10 _) rfl (zmS10 C) ?_
      rcases zite_e H with ⟨c47, H⟩ | ⟨c47, H⟩
      · refine zA_brT (c := x46 = 0) rfl rfl rfl c47 ?_
        refine zA_tr (L := [some (zrv x0), none, some (zrv v39), none]) rfl rfl ?_
        refine zA_aldn rfl rfl rfl ?_
        refine zA_aldn rfl rfl rfl ?_
        rcases zb_e H with ⟨x49, h48, C, H⟩ | ⟨E, h48, C, H⟩
        · refine zA_callV (as := [zrv x0, zrv v39]) (st' := []) rfl rfl rfl (zrcv_Q e23 c24) rfl (zmE56 _ _) rfl (zmS56 C) ?_
          refine zA_istn2 rfl rfl rfl (zset1 (L' := [some (zrv x0), none, some (zrv v39), some (zI x49)]) rfl rfl (zpcV rfl (zcat_rv _))) ?_
          refine zA_aldn rfl rfl rfl ?_
          refine zA_aldn rfl rfl rfl ?_
          refine zA_gf3 rfl rfl e23 c24 ?_
          refine zA_aldn rfl rfl rfl ?_
          refine zA_gf3 rfl rfl e43 c44 ?_
          obtain ⟨p50, i51, e52, c53, H⟩ := zob_e H
          refine zA_gf0 rfl rfl (Or.inl rfl) e52 c53 ?_
          obtain ⟨p54, i55, j56, v61, e57, c58, c59, e60, e62, H⟩ := zra_e H
          refine zA_aal rfl rfl e57 c58 c59 e60 e62 ?_
          rcases zb_e H with ⟨u64, h63, C, H⟩ | ⟨E, h63, C, H⟩
          · refine zA_callU (as := [zrv x0, zrv v61]) (st' := []) rfl rfl rfl (zrcv_Q e23 c24) rfl (zmE60 _ _) rfl (zmS60 C) ?_
            refine zA_ldn rfl rfl rfl ?_
            cases H
            exact zA_ret rfl rfl
          · cases H
            exact zA_callX (as := [zrv x0, zrv v61]) (st' := []) rfl rfl (zrcv_Q e23 c24) rfl (zmE60 _ _) rfl rfl rfl (zmS60 C)
        · cases H
          exact zA_callX (as := [zrv x0, zrv v39]) (st' := []) rfl rfl (zrcv_Q e23 c24) rfl (zmE56 _ _) rfl rfl rfl (zmS56 C)
      · refine zA_brF (c := x46 = 0) rfl rfl rfl c47 ?_
        cases H
        exact zA_thr rfl rfl
    · cases H
      exact zA_callX (as := [zrv v39]) (st' := []) rfl rfl (zrcv_Q e43 c44) rfl (zmE10 _) rfl rfl rfl (zmS10 C)
  · cases H
    exact zA_callX (as := [zI x1, zI v30]) (st' := []) rfl rfl rfl rfl (zmE130 _ _) rfl rfl rfl (zmS130 C)
theorem zmE55 (x0 : zq) (x1 : Int32) : zpad (zPr.2.1 55).1 (zil [zrv x0, zI x1]) = [some (zrv x0), some (zI x1), none, none] := by
  simp only [zil_A, zil_I, zil_F, zil_D, zil_N]
  rfl
