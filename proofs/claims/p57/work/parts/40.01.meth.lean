set_option maxRecDepth 16384
/-! The methods read back (printed by wip/whole/gen/dec.py). -/
-- 23: ReleaseHouse$Sample.areNineTenths(I)Z
def zm23 (x0 : zq) (x1 : Int32) (h : zH) : zRs Int32 :=
  zob 7 x0 fun p21 i22 =>
  if (x1 * (10 : Int32)) < ((zi h p21 i22 1) * (9 : Int32)) then
    some (.inl (0 : Int32), h)
  else
    some (.inl (1 : Int32), h)
theorem zmS23 {x0 : zq} {x1 : Int32} {h : zH} {r : Int32 ⊕ Nat} {h' : zH} (H : zm23 x0 x1 h = some (r, h')) : zAt 23 0 [some (zrv x0), some (zI x1)] [] h (zoI r) h' := by
  unfold zm23 at H
  refine zA_ldn rfl rfl rfl ?_
  refine zA_push rfl rfl zkk13 ?_
  refine zA_st (st' := [zI (x1 * (10 : Int32))]) rfl rfl rfl rfl ?_
  refine zA_aldn rfl rfl rfl ?_
  obtain ⟨p21, i22, e23, c24, H⟩ := zob_e H
  refine zA_gf0 rfl rfl (Or.inl rfl) e23 c24 ?_
  refine zA_push rfl rfl zkk31 ?_
  refine zA_st (st' := [zI ((zi h p21 i22 1) * (9 : Int32)), zI (x1 * (10 : Int32))]) rfl rfl rfl rfl ?_
  rcases zite_e H with ⟨c25, H⟩ | ⟨c25, H⟩
  · refine zA_brT (c := (x1 * (10 : Int32)) < ((zi h p21 i22 1) * (9 : Int32))) rfl rfl rfl c25 ?_
    refine zA_tr (L := [none, none]) rfl rfl ?_
    refine zA_push rfl rfl zkk7 ?_
    cases H
    exact zA_ret rfl (zret_Z (by decide))
  · refine zA_brF (c := (x1 * (10 : Int32)) < ((zi h p21 i22 1) * (9 : Int32))) rfl rfl rfl c25 ?_
    refine zA_push rfl rfl zkk5 ?_
    refine zA_go rfl rfl ?_
    refine zA_tr (L := [none, none]) rfl rfl ?_
    cases H
    exact zA_ret rfl (zret_Z (by decide))
theorem zmE23 (x0 : zq) (x1 : Int32) : zpad (zPr.2.1 23).1 (zil [zrv x0, zI x1]) = [some (zrv x0), some (zI x1)] := by
  simp only [zil_A, zil_I, zil_F, zil_D, zil_N]
  rfl
def zm21_4 : Nat → zq → Int32 → Int32 → zH → zRs Int32
  | 0, _, _, _, _ => none
  | n + 1, x0, x1, x2, h =>
    if (17 : Int32) ≤ x2 then
      some (.inl (16 : Int32), h)
    else
      zob 7 x0 fun p22 i23 =>
      zri (zr h p22 i23 3) x2 h fun v33 =>
      zlet (x1 + v33) fun x35 =>
      zb (zm23 x0 x35 h) fun x38 h37 =>
      if x38 = 0 then
        zlet (x2 + (1 : Int32)) fun x40 =>
        zm21_4 n x0 x35 x40 h37
      else
        some (.inl x2, h37)
theorem zmS21_4 : ∀ (n : Nat) (x0 : zq) (x1 : Int32) (x2 : Int32) (h : zH) (r : Int32 ⊕ Nat) (h' : zH), zm21_4 n x0 x1 x2 h = some (r, h') → zAt 21 4 [some (zrv x0), some (zI x1), some (zI x2)] [] h (zoI r) h' := by
  intro n
  induction n with
  | zero => intro x0 x1 x2 h r h' H; cases H
  | succ n ih =>
    intro x0 x1 x2 h r h' H
    unfold zm21_4 at H
    refine zA_ldn rfl rfl rfl ?_
    refine zA_push rfl rfl zkk1 ?_
    rcases zite_e H with ⟨c21, H⟩ | ⟨c21, H⟩
    · refine zA_brT (c := (17 : Int32) ≤ x2) rfl rfl rfl c21 ?_
      refine zA_tr (L := [none, none, none]) rfl rfl ?_
      refine zA_push rfl rfl zkk29 ?_
      cases H
      exact zA_ret rfl rfl
    · refine zA_brF (c := (17 : Int32) ≤ x2) rfl rfl rfl c21 ?_
      refine zA_ldn rfl rfl rfl ?_
      refine zA_aldn rfl rfl rfl ?_
      obtain ⟨p22, i23, e24, c25, H⟩ := zob_e H
      refine zA_gf3 rfl rfl e24 c25 ?_
      refine zA_ldn rfl rfl rfl ?_
      obtain ⟨p26, i27, j28, v33, e29, c30, c31, e32, e34, H⟩ := zri_e H
      refine zA_ial rfl rfl e29 c30 c31 e32 e34 ?_
      refine zA_st (st' := [zI (x1 + v33)]) rfl rfl rfl rfl ?_
      obtain ⟨x35, e36, H⟩ := zlet_e H
      refine zA_istn2 rfl rfl e36 (zset1 (L' := [some (zrv x0), some (zI x35), some (zI x2)]) rfl rfl (zpcV rfl (zcat_rv _))) ?_
      refine zA_aldn rfl rfl rfl ?_
      refine zA_ldn rfl rfl rfl ?_
      rcases zb_e H with ⟨x38, h37, C, H⟩ | ⟨E, h37, C, H⟩
      · refine zA_callV (as := [zrv x0, zI x35]) (st' := []) rfl rfl rfl (zrcv_Q e24 c25) rfl (zmE23 _ _) rfl (zmS23 C) ?_
        rcases zite_e H with ⟨c39, H⟩ | ⟨c39, H⟩
        · refine zA_brT (c := x38 = 0) rfl rfl rfl c39 ?_
          obtain ⟨x40, e41, H⟩ := zlet_e H
          refine zA_inc rfl rfl rfl (e41.trans (congrArg (_ + ·) zkk8)) (zset1 (L' := [some (zrv x0), some (zI x35), some (zI x40)]) rfl rfl (zpcV rfl rfl)) ?_
          refine zA_go rfl rfl ?_
          exact zA_tr (L := [some (zrv x0), some (zI x35), some (zI x40)]) rfl rfl (ih _ _ _ _ _ _ H)
        · refine zA_brF (c := x38 = 0) rfl rfl rfl c39 ?_
          refine zA_ldn rfl rfl rfl ?_
          cases H
          exact zA_ret rfl rfl
      · cases H
        exact zA_callX (as := [zrv x0, zI x35]) (st' := []) rfl rfl (zrcv_Q e24 c25) rfl (zmE23 _ _) rfl rfl rfl (zmS23 C)
-- 21: ReleaseHouse$Sample.slowBucket()I
def zm21 (x0 : zq) (h : zH) : zRs Int32 :=
  zm21_4 zN0 x0 (0 : Int32) (0 : Int32) h
theorem zmS21 {x0 : zq} {h : zH} {r : Int32 ⊕ Nat} {h' : zH} (H : zm21 x0 h = some (r, h')) : zAt 21 0 [some (zrv x0), none, none] [] h (zoI r) h' := by
  unfold zm21 at H
  refine zA_push rfl rfl zkk7 ?_
  refine zA_istn2 rfl rfl rfl (zset1 (L' := [some (zrv x0), some (zI (0 : Int32)), none]) rfl rfl (zpcV rfl (zcat_rv _))) ?_
  refine zA_push rfl rfl zkk7 ?_
  refine zA_istn2 rfl rfl rfl (zset1 (L' := [some (zrv x0), some (zI (0 : Int32)), some (zI (0 : Int32))]) rfl rfl (zpcV rfl rfl)) ?_
  exact zA_tr (L := [some (zrv x0), some (zI (0 : Int32)), some (zI (0 : Int32))]) rfl rfl (zmS21_4 zN0 _ _ _ _ _ _ H)
theorem zmE21 (x0 : zq) : zpad (zPr.2.1 21).1 (zil [zrv x0]) = [some (zrv x0), none, none] := by
  simp only [zil_A, zil_I, zil_F, zil_D, zil_N]
  rfl
-- 37: ReleaseHouse$Spot.pairs()I
def zm37 (x0 : zq) (h : zH) : zRs Int32 :=
  zob 9 x0 fun p21 i22 =>
  zob 7 (zr h p21 i22 5) fun p25 i26 =>
  zob 7 (zr h p21 i22 6) fun p29 i30 =>
  some (.inl (if (zi h p29 i30 1) < (zi h p25 i26 1) then (zi h p29 i30 1) else (zi h p25 i26 1)), h)
theorem zmS37 {x0 : zq} {h : zH} {r : Int32 ⊕ Nat} {h' : zH} (H : zm37 x0 h = some (r, h')) : zAt 37 0 [some (zrv x0)] [] h (zoI r) h' := by
  unfold zm37 at H
  refine zA_aldn rfl rfl rfl ?_
  obtain ⟨p21, i22, e23, c24, H⟩ := zob_e H
  refine zA_gf3 rfl rfl e23 c24 ?_
  obtain ⟨p25, i26, e27, c28, H⟩ := zob_e H
  refine zA_gf0 rfl rfl (Or.inl rfl) e27 c28 ?_
  refine zA_aldn rfl rfl rfl ?_
  refine zA_gf3 rfl rfl e23 c24 ?_
  obtain ⟨p29, i30, e31, c32, H⟩ := zob_e H
  refine zA_gf0 rfl rfl (Or.inl rfl) e31 c32 ?_
  refine zA_l6 rfl rfl rfl ?_
  cases H
  exact zA_ret rfl rfl
theorem zmE37 (x0 : zq) : zpad (zPr.2.1 37).1 (zil [zrv x0]) = [some (zrv x0)] := by
  simp only [zil_A, zil_I, zil_F, zil_D, zil_N]
  rfl
def zm36_12 (x0 : zq) (x1 : UInt64) (s0 : Int32) (h : zH) : zRs Int32 :=
  if 0 ≤ (Op.cmpValue (FP.dcmp x1 (4626322717216342016 : UInt64)) .l) then
    some (.inl (2 : Int32), h)
  else
    if s0 = 0 then
      zob 9 x0 fun p23 i24 =>
      zb (zm37 x0 h) fun x28 h27 =>
      if x28 < (20 : Int32) then
        some (.inl (0 : Int32), h27)
      else
        some (.inl (1 : Int32), h27)
    else
      some (.inl (2 : Int32), h)
theorem zmS36_12 : ∀ (x0 : zq) (x1 : UInt64) (s0 : Int32) (h : zH) (r : Int32 ⊕ Nat) (h' : zH), zm36_12 x0 x1 s0 h = some (r, h') → zAt 36 12 [some (zrv x0), some (zD x1), none, none, none, none] [zI s0] h (zoI r) h' := by
  intro x0 x1 s0 h r h' H
  unfold zm36_12 at H
  refine zA_ist2 rfl rfl rfl (zset1 (L' := [some (zrv x0), some (zD x1), none, none, none, some (zI s0)]) rfl rfl (zpcN rfl)) ?_
  refine zA_dldn rfl rfl rfl ?_
  refine zA_push rfl rfl zkk32 ?_
  refine zA_st (st' := [zI (Op.cmpValue (FP.dcmp x1 (4626322717216342016 : UInt64)) .l)]) rfl rfl rfl rfl ?_
  rcases zite_e H with ⟨c21, H⟩ | ⟨c21, H⟩
  · refine zA_brT (c := 0 ≤ (Op.cmpValue (FP.dcmp x1 (4626322717216342016 : UInt64)) .l)) rfl rfl rfl c21 ?_
    refine zA_tr (L := [none, none, none, none, none, none]) rfl rfl ?_
    refine zA_push rfl rfl zkk15 ?_
    cases H
    exact zA_ret rfl rfl
  · refine zA_brF (c := 0 ≤ (Op.cmpValue (FP.dcmp x1 (4626322717216342016 : UInt64)) .l)) rfl rfl rfl c21 ?_
    refine zA_ld rfl rfl rfl ?_
    rcases zite_e H with ⟨c22, H⟩ | ⟨c22, H⟩
    · refine zA_brT (c := s0 = 0) rfl rfl rfl c22 ?_
      refine zA_tr (L := [some (zrv x0), none, none, none, none, none]) rfl rfl ?_
      refine zA_aldn rfl rfl rfl ?_
      obtain ⟨p23, i24, e25, c26, H⟩ := zob_e H
      rcases zb_e H with ⟨x28, h27, C, H⟩ | ⟨E, h27, C, H⟩
      · refine zA_callV (as := [zrv x0]) (st' := []) rfl rfl rfl (zrcv_Q e25 c26) rfl (zmE37 _) rfl (zmS37 C) ?_
        refine zA_push rfl rfl zkk23 ?_
        rcases zite_e H with ⟨c29, H⟩ | ⟨c29, H⟩
        · refine zA_brT (c := x28 < (20 : Int32)) rfl rfl rfl c29 ?_
          refine zA_tr (L := [none, none, none, none, none, none]) rfl rfl ?_
          refine zA_push rfl rfl zkk7 ?_
          cases H
          exact zA_ret rfl rfl
        · refine zA_brF (c := x28 < (20 : Int32)) rfl rfl rfl c29 ?_
          refine zA_push rfl rfl zkk5 ?_
          refine zA_go rfl rfl ?_
          refine zA_tr (L := [none, none, none, none, none, none]) rfl rfl ?_
          cases H
          exact zA_ret rfl rfl
      · cases H
        exact zA_callX (as := [zrv x0]) (st' := []) rfl rfl (zrcv_Q e25 c26) rfl (zmE37 _) rfl rfl rfl (zmS37 C)
    · refine zA_brF (c := s0 = 0) rfl rfl rfl c22 ?_
      refine zA_tr (L := [none, none, none, none, none, none]) rfl rfl ?_
      refine zA_push rfl rfl zkk15 ?_
      cases H
      exact zA_ret rfl rfl
-- 36: ReleaseHouse$Spot.judgementBy(DII)I
def zm36 (x0 : zq) (x1 : UInt64) (x3 : Int32) (x4 : Int32) (h : zH) : zRs Int32 :=
  zob 9 x0 fun p21 i22 =>
  zb (zm37 x0 h) fun x26 h25 =>
  if x26 < (10 : Int32) then
    zm36_12 x0 x1 (0 : Int32) h25
  else
    if x3 ≤ (x4 + (1 : Int32)) then
      zm36_12 x0 x1 (0 : Int32) h25
    else
      zm36_12 x0 x1 (1 : Int32) h25
theorem zmS36 {x0 : zq} {x1 : UInt64} {x3 : Int32} {x4 : Int32} {h : zH} {r : Int32 ⊕ Nat} {h' : zH} (H : zm36 x0 x1 x3 x4 h = some (r, h')) : zAt 36 0 [some (zrv x0), some (zD x1), none, some (zI x3), some (zI x4), none] [] h (zoI r) h' := by
  unfold zm36 at H
  refine zA_aldn rfl rfl rfl ?_
  obtain ⟨p21, i22, e23, c24, H⟩ := zob_e H
  rcases zb_e H with ⟨x26, h25, C, H⟩ | ⟨E, h25, C, H⟩
  · refine zA_callV (as := [zrv x0]) (st' := []) rfl rfl rfl (zrcv_Q e23 c24) rfl (zmE37 _) rfl (zmS37 C) ?_
    refine zA_push rfl rfl zkk13 ?_
    rcases zite_e H with ⟨c27, H⟩ | ⟨c27, H⟩
    · refine zA_brT (c := x26 < (10 : Int32)) rfl rfl rfl c27 ?_
      refine zA_tr (L := [some (zrv x0), some (zD x1), none, none, none, none]) rfl rfl ?_
      refine zA_push rfl rfl zkk7 ?_
      exact zA_tr (L := [some (zrv x0), some (zD x1), none, none, none, none]) rfl rfl (zmS36_12 _ _ _ _ _ _ H)
    · refine zA_brF (c := x26 < (10 : Int32)) rfl rfl rfl c27 ?_
      refine zA_ldn rfl rfl rfl ?_
      refine zA_ld rfl rfl rfl ?_
      refine zA_push rfl rfl zkk5 ?_
      refine zA_st (st' := [zI (x4 + (1 : Int32)), zI x3]) rfl rfl rfl rfl ?_
      rcases zite_e H with ⟨c28, H⟩ | ⟨c28, H⟩
      · refine zA_brT (c := x3 ≤ (x4 + (1 : Int32))) rfl rfl rfl c28 ?_
        refine zA_tr (L := [some (zrv x0), some (zD x1), none, none, none, none]) rfl rfl ?_
        refine zA_push rfl rfl zkk7 ?_
        exact zA_tr (L := [some (zrv x0), some (zD x1), none, none, none, none]) rfl rfl (zmS36_12 _ _ _ _ _ _ H)
      · refine zA_brF (c := x3 ≤ (x4 + (1 : Int32))) rfl rfl rfl c28 ?_
        refine zA_push rfl rfl zkk5 ?_
        refine zA_go rfl rfl ?_
        exact zA_tr (L := [some (zrv x0), some (zD x1), none, none, none, none]) rfl rfl (zmS36_12 _ _ _ _ _ _ H)
  · cases H
    exact zA_callX (as := [zrv x0]) (st' := []) rfl rfl (zrcv_Q e23 c24) rfl (zmE37 _) rfl rfl rfl (zmS37 C)
theorem zmE36 (x0 : zq) (x1 : UInt64) (x3 : Int32) (x4 : Int32) : zpad (zPr.2.1 36).1 (zil [zrv x0, zD x1, zI x3, zI x4]) = [some (zrv x0), some (zD x1), none, some (zI x3), some (zI x4), none] := by
  simp only [zil_A, zil_I, zil_F, zil_D, zil_N]
  rfl
-- 34: ReleaseHouse$Spot.judgement()I
def zm34 (x0 : zq) (h : zH) : zRs Int32 :=
  zob 9 x0 fun p21 i22 =>
  zob 7 (zr h p21 i22 5) fun p25 i26 =>
  zb (zm21 (zr h p21 i22 5) h) fun x30 h29 =>
  zob 7 (zr h29 p21 i22 6) fun p31 i32 =>
  zb (zm21 (zr h29 p21 i22 6) h29) fun x36 h35 =>
  zb (zm36 x0 (zd h p21 i22 4) x30 x36 h35) fun x38 h37 =>
  some (.inl x38, h37)
theorem zmS34 {x0 : zq} {h : zH} {r : Int32 ⊕ Nat} {h' : zH} (H : zm34 x0 h = some (r, h')) : zAt 34 0 [some (zrv x0)] [] h (zoI r) h' := by
  unfold zm34 at H
  refine zA_aldn rfl rfl rfl ?_
  refine zA_aldn rfl rfl rfl ?_
  obtain ⟨p21, i22, e23, c24, H⟩ := zob_e H
  refine zA_gf2 rfl rfl e23 c24 ?_
  refine zA_aldn rfl rfl rfl ?_
  refine zA_gf3 rfl rfl e23 c24 ?_
  obtain ⟨p25, i26, e27, c28, H⟩ := zob_e H
  rcases zb_e H with ⟨x30, h29, C, H⟩ | ⟨E, h29, C, H⟩
  · refine zA_callV (as := [zrv (zr h p21 i22 5)]) (st' := [zD (zd h p21 i22 4), zrv x0]) rfl rfl rfl (zrcv_Q e27 c28) rfl (zmE21 _) rfl (zmS21 C) ?_
    refine zA_aldn rfl rfl rfl ?_
    refine zA_gf3 rfl rfl e23 c24 ?_
    obtain ⟨p31, i32, e33, c34, H⟩ := zob_e H
    rcases zb_e H with ⟨x36, h35, C, H⟩ | ⟨E, h35, C, H⟩
    · refine zA_callV (as := [zrv (zr h29 p21 i22 6)]) (st' := [zI x30, zD (zd h p21 i22 4), zrv x0]) rfl rfl rfl (zrcv_Q e33 c34) rfl (zmE21 _) rfl (zmS21 C) ?_
      rcases zb_e H with ⟨x38, h37, C, H⟩ | ⟨E, h37, C, H⟩
      · refine zA_callV (as := [zrv x0, zD (zd h p21 i22 4), zI x30, zI x36]) (st' := []) rfl rfl rfl (zrcv_Q e23 c24) rfl (zmE36 _ _ _ _) rfl (zmS36 C) ?_
        cases H
        exact zA_ret rfl rfl
      · cases H
        exact zA_callX (as := [zrv x0, zD (zd h p21 i22 4), zI x30, zI x36]) (st' := []) rfl rfl (zrcv_Q e23 c24) rfl (zmE36 _ _ _ _) rfl rfl rfl (zmS36 C)
    · cases H
      exact zA_callX (as := [zrv (zr h29 p21 i22 6)]) (st' := [zI x30, zD (zd h p21 i22 4), zrv x0]) rfl rfl (zrcv_Q e33 c34) rfl (zmE21 _) rfl rfl rfl (zmS21 C)
  · cases H
    exact zA_callX (as := [zrv (zr h p21 i22 5)]) (st' := [zD (zd h p21 i22 4), zrv x0]) rfl rfl (zrcv_Q e27 c28) rfl (zmE21 _) rfl rfl rfl (zmS21 C)
theorem zmE34 (x0 : zq) : zpad (zPr.2.1 34).1 (zil [zrv x0]) = [some (zrv x0)] := by
  simp only [zil_A, zil_I, zil_F, zil_D, zil_N]
  rfl
def zm72_36 (k11 : zq → Int32 → Int32 → zq → Int32 → zH → zRs Int32) (x0 : zq) (x1 : Int32) (x2 : Int32) (x3 : zq) (x4 : Int32) (h : zH) : zRs Int32 :=
  zlet (x4 + (1 : Int32)) fun x21 =>
  k11 x0 x1 x2 x3 x21 h
theorem zmS72_36 {k11 : zq → Int32 → Int32 → zq → Int32 → zH → zRs Int32} (hk11 : ∀ (x0 : zq) (x1 : Int32) (x2 : Int32) (x3 : zq) (x4 : Int32) (h : zH) (r : Int32 ⊕ Nat) (h' : zH), k11 x0 x1 x2 x3 x4 h = some (r, h') → zAt 72 11 [some (zrv x0), some (zI x1), some (zI x2), some (zrv x3), some (zI x4), none] [] h (zoI r) h') : ∀ (x0 : zq) (x1 : Int32) (x2 : Int32) (x3 : zq) (x4 : Int32) (h : zH) (r : Int32 ⊕ Nat) (h' : zH), zm72_36 k11 x0 x1 x2 x3 x4 h = some (r, h') → zAt 72 36 [some (zrv x0), some (zI x1), some (zI x2), some (zrv x3), some (zI x4), none] [] h (zoI r) h' := by
  intro x0 x1 x2 x3 x4 h r h' H
  unfold zm72_36 at H
  obtain ⟨x21, e22, H⟩ := zlet_e H
  refine zA_inc rfl rfl rfl (e22.trans (congrArg (_ + ·) zkk8)) (zset1 (L' := [some (zrv x0), some (zI x1), some (zI x2), some (zrv x3), some (zI x21), none]) rfl rfl (zpcV rfl (zcat_rv _))) ?_
  refine zA_go rfl rfl ?_
  exact zA_tr (L := [some (zrv x0), some (zI x1), some (zI x2), some (zrv x3), some (zI x21), none]) rfl rfl (hk11 _ _ _ _ _ _ _ _ H)
def zm72_11 : Nat → zq → Int32 → Int32 → zq → Int32 → zH → zRs Int32
  | 0, _, _, _, _, _, _ => none
  | n + 1, x0, x1, x2, x3, x4, h =>
    zob 11 x0 fun p21 i22 =>
    zlz (zr h p21 i22 0) h fun v30 =>
    if v30 ≤ x4 then
      some (.inl (1 : Int32), h)
    else
      zlg (zr h p21 i22 0) x4 h fun v39 =>
      zob 0 v39 fun p41 i42 =>
      if (zi h p41 i42 1) = x1 then
        if v39 = x3 then
          zm72_36 (zm72_11 n) x0 x1 x2 x3 x4 h
        else
          zri (zr h p41 i42 11) x2 h fun v54 =>
          if v54 ≤ 0 then
            zm72_36 (zm72_11 n) x0 x1 x2 x3 x4 h
          else
            some (.inl (0 : Int32), h)
      else
        zm72_36 (zm72_11 n) x0 x1 x2 x3 x4 h
theorem zmS72_11 : ∀ (n : Nat) (x0 : zq) (x1 : Int32) (x2 : Int32) (x3 : zq) (x4 : Int32) (h : zH) (r : Int32 ⊕ Nat) (h' : zH), zm72_11 n x0 x1 x2 x3 x4 h = some (r, h') → zAt 72 11 [some (zrv x0), some (zI x1), some (zI x2), some (zrv x3), some (zI x4), none] [] h (zoI r) h' := by
  intro n
  induction n with
  | zero => intro x0 x1 x2 x3 x4 h r h' H; cases H
  | succ n ih =>
    intro x0 x1 x2 x3 x4 h r h' H
    unfold zm72_11 at H
    refine zA_ld rfl rfl rfl ?_
    refine zA_aldn rfl rfl rfl ?_
    obtain ⟨p21, i22, e23, c24, H⟩ := zob_e H
    refine zA_gf3 rfl rfl e23 c24 ?_
    obtain ⟨p25, i26, v30, e27, c28, c29, e31, H⟩ := zlz_e H
    refine zA_l2 rfl rfl rfl e27 c28 c29 e31 ?_
    rcases zite_e H with ⟨c32, H⟩ | ⟨c32, H⟩
    · refine zA_brT (c := v30 ≤ x4) rfl rfl rfl c32 ?_
      refine zA_tr (L := [none, none, none, none, none, none]) rfl rfl ?_
      refine zA_push rfl rfl zkk5 ?_
      cases H
      exact zA_ret rfl (zret_Z (by decide))
    · refine zA_brF (c := v30 ≤ x4) rfl rfl rfl c32 ?_
      refine zA_aldn rfl rfl rfl ?_
      refine zA_gf3 rfl rfl e23 c24 ?_
      refine zA_ld rfl rfl rfl ?_
      obtain ⟨p33, i34, v39, e35, c36, c37, c38, e40, H⟩ := zlg_e H
      refine zA_l3 rfl rfl rfl e35 c36 c37 c38 e40 ?_
      obtain ⟨p41, i42, e43, c44, H⟩ := zob_e H
      refine zA_cast rfl rfl e43 c44 ?_
      refine zA_ast2 rfl rfl rfl (zset1 (L' := [some (zrv x0), some (zI x1), some (zI x2), some (zrv x3), some (zI x4), some (zrv v39)]) (zcat_rv _) rfl (zpcV rfl rfl)) ?_
      refine zA_ald rfl rfl rfl ?_
      refine zA_gf0 rfl rfl (Or.inl rfl) e43 c44 ?_
      refine zA_ldn rfl rfl rfl ?_
      rcases zite_e H with ⟨c45, H⟩ | ⟨c45, H⟩
      · refine zA_brF' (c := (zi h p41 i42 1) = x1) rfl rfl rfl c45 ?_
        refine zA_ald rfl rfl rfl ?_
        refine zA_aldn rfl rfl rfl ?_
        rcases zite_e H with ⟨c46, H⟩ | ⟨c46, H⟩
        · refine zA_brT (c := v39 = x3) rfl rfl zIf_aeq c46 ?_
          exact zA_tr (L := [some (zrv x0), some (zI x1), some (zI x2), some (zrv x3), some (zI x4), none]) rfl rfl (zmS72_36 ih _ _ _ _ _ _ _ _ H)
        · refine zA_brF (c := v39 = x3) rfl rfl zIf_aeq c46 ?_
          refine zA_ald rfl rfl rfl ?_
          refine zA_gf3 rfl rfl e43 c44 ?_
          refine zA_ldn rfl rfl rfl ?_
          obtain ⟨p47, i48, j49, v54, e50, c51, c52, e53, e55, H⟩ := zri_e H
          refine zA_ial rfl rfl e50 c51 c52 e53 e55 ?_
          rcases zite_e H with ⟨c56, H⟩ | ⟨c56, H⟩
          · refine zA_brT (c := v54 ≤ 0) rfl rfl rfl c56 ?_
            exact zA_tr (L := [some (zrv x0), some (zI x1), some (zI x2), some (zrv x3), some (zI x4), none]) rfl rfl (zmS72_36 ih _ _ _ _ _ _ _ _ H)
          · refine zA_brF (c := v54 ≤ 0) rfl rfl rfl c56 ?_
            refine zA_push rfl rfl zkk7 ?_
            cases H
            exact zA_ret rfl (zret_Z (by decide))
      · refine zA_brT' (c := (zi h p41 i42 1) = x1) rfl rfl rfl c45 ?_
        exact zA_tr (L := [some (zrv x0), some (zI x1), some (zI x2), some (zrv x3), some (zI x4), none]) rfl rfl (zmS72_36 ih _ _ _ _ _ _ _ _ H)
-- 72: ReleaseHouse.isDrained(II)Z
def zm72 (x0 : zq) (x1 : Int32) (x2 : Int32) (h : zH) : zRs Int32 :=
  zob 11 x0 fun p21 i22 =>
  zra (zr h p21 i22 6) x1 h fun v32 =>
  zob 8 v32 fun p34 i35 =>
  zra (zr h p34 i35 0) x2 h fun v45 =>
  zob 9 v45 fun p47 i48 =>
  zlet (zr h p47 i48 0) fun x51 =>
  zm72_11 zN0 x0 x1 x2 x51 (0 : Int32) h
theorem zmS72 {x0 : zq} {x1 : Int32} {x2 : Int32} {h : zH} {r : Int32 ⊕ Nat} {h' : zH} (H : zm72 x0 x1 x2 h = some (r, h')) : zAt 72 0 [some (zrv x0), some (zI x1), some (zI x2), none, none, none] [] h (zoI r) h' := by
  unfold zm72 at H
  refine zA_aldn rfl rfl rfl ?_
  obtain ⟨p21, i22, e23, c24, H⟩ := zob_e H
  refine zA_gf3 rfl rfl e23 c24 ?_
  refine zA_ldn rfl rfl rfl ?_
  obtain ⟨p25, i26, j27, v32, e28, c29, c30, e31, e33, H⟩ := zra_e H
  refine zA_aal rfl rfl e28 c29 c30 e31 e33 ?_
  obtain ⟨p34, i35, e36, c37, H⟩ := zob_e H
  refine zA_gf3 rfl rfl e36 c37 ?_
  refine zA_ldn rfl rfl rfl ?_
  obtain ⟨p38, i39, j40, v45, e41, c42, c43, e44, e46, H⟩ := zra_e H
  refine zA_aal rfl rfl e41 c42 c43 e44 e46 ?_
  obtain ⟨p47, i48, e49, c50, H⟩ := zob_e H
  refine zA_gf3 rfl rfl e49 c50 ?_
  obtain ⟨x51, e52, H⟩ := zlet_e H
  refine zA_astn2 rfl rfl e52 (zset1 (L' := [some (zrv x0), some (zI x1), some (zI x2), some (zrv x51), none, none]) (zcat_rv _) rfl (zpcV rfl rfl)) ?_
  refine zA_push rfl rfl zkk7 ?_
  refine zA_ist2 rfl rfl rfl (zset1 (L' := [some (zrv x0), some (zI x1), some (zI x2), some (zrv x51), some (zI (0 : Int32)), none]) rfl rfl (zpcV rfl (zcat_rv _))) ?_
  exact zA_tr (L := [some (zrv x0), some (zI x1), some (zI x2), some (zrv x51), some (zI (0 : Int32)), none]) rfl rfl (zmS72_11 zN0 _ _ _ _ _ _ _ _ H)
theorem zmE72 (x0 : zq) (x1 : Int32) (x2 : Int32) : zpad (zPr.2.1 72).1 (zil [zrv x0, zI x1, zI x2]) = [some (zrv x0), some (zI x1), some (zI x2), none, none, none] := by
  simp only [zil_A, zil_I, zil_F, zil_D, zil_N]
  rfl
-- 64: ReleaseHouse.reasonAtStep(LReleaseHouse$Release;)I
def zm64 (x0 : zq) (x1 : zq) (h : zH) : zRs Int32 :=
  zob 5 x1 fun p21 i22 =>
  zb (zm13 x1 h) fun x26 h25 =>
  zb (zm12 x1 h25) fun x28 h27 =>
  if x28.toInt < 0 ∨ 6 < x28.toInt then
    some (.inl (0 : Int32), h27)
  else if x28 = (0 : Int32) then
    zb (zm14 x1 h27) fun x103 h102 =>
    zob 11 x0 fun p104 i105 =>
    zb (zm65 x0 x1 x26 x103 h102) fun x109 h108 =>
    some (.inl x109, h108)
  else if x28 = (1 : Int32) then
    zob 11 x0 fun p96 i97 =>
    if x26 ≤ ((zi h27 p96 i97 11) - (zi h27 p21 i22 4)) then
      some (.inl (0 : Int32), h27)
    else
      some (.inl (8 : Int32), h27)
  else if x28 = (2 : Int32) then
    zob 11 x0 fun p57 i58 =>
    zob 0 (zr h27 p21 i22 0) fun p61 i62 =>
    zra (zr h27 p57 i58 6) (zi h27 p61 i62 1) h27 fun v72 =>
    zob 8 v72 fun p74 i75 =>
    zra (zr h27 p74 i75 0) x26 h27 fun v85 =>
    zob 9 v85 fun p87 i88 =>
    if (zr h27 p87 i88 1) = (zr h27 p21 i22 0) then
      zb (zm34 v85 h27) fun x93 h92 =>
      if x93 = 0 then
        some (.inl (9 : Int32), h92)
      else
        some (.inl (0 : Int32), h92)
    else
      some (.inl (9 : Int32), h27)
  else if x28 = (3 : Int32) then
    zb (zm292 (zi h27 p21 i22 5) h27) fun x54 h53 =>
    if x26 ≤ x54 then
      some (.inl (0 : Int32), h53)
    else
      some (.inl (10 : Int32), h53)
  else if x28 = (4 : Int32) then
    zb (zm14 x1 h27) fun x45 h44 =>
    zob 11 x0 fun p46 i47 =>
    zb (zm65 x0 x1 x26 x45 h44) fun x51 h50 =>
    some (.inl x51, h50)
  else if x28 = (5 : Int32) then
    if (zi h27 p21 i22 8) = 0 then
      some (.inl (11 : Int32), h27)
    else
      some (.inl (0 : Int32), h27)
  else if x28 = (6 : Int32) then
    zob 0 (zr h27 p21 i22 0) fun p30 i31 =>
    zob 11 x0 fun p34 i35 =>
    zb (zm72 x0 (zi h27 p30 i31 1) x26 h27) fun x39 h38 =>
    if x39 = 0 then
      some (.inl (12 : Int32), h38)
    else
      some (.inl (0 : Int32), h38)
  else none
theorem zmS64 {x0 : zq} {x1 : zq} {h : zH} {r : Int32 ⊕ Nat} {h' : zH} (H : zm64 x0 x1 h = some (r, h')) : zAt 64 0 [some (zrv x0), some (zrv x1), none, none] [] h (zoI r) h' := by
  unfold zm64 at H
  refine zA_aldn rfl rfl rfl ?_
  obtain ⟨p21, i22, e23, c24, H⟩ := zob_e H
  rcases zb_e H with ⟨x26, h25, C, H⟩ | ⟨E, h25, C, H⟩
  · refine zA_callV (as := [zrv x1]) (st' := []) rfl rfl rfl (zrcv_Q e23 c24) rfl (zmE13 _) rfl (zmS13 C) ?_
    refine zA_istn2 rfl rfl rfl (zset1 (L' := [some (zrv x0), some (zrv x1), some (zI x26), none]) rfl rfl (zpcV rfl (zcat_rv _))) ?_
    refine zA_aldn rfl rfl rfl ?_
    rcases zb_e H with ⟨x28, h27, C, H⟩ | ⟨E, h27, C, H⟩
    · refine zA_callV (as := [zrv x1]) (st' := []) rfl rfl rfl (zrcv_Q e23 c24) rfl (zmE12 _) rfl (zmS12 C) ?_
      rcases zite_e H with ⟨c29, H⟩ | ⟨c29, H⟩
      · refine zA_swD rfl rfl c29 ?_
        refine zA_tr (L := [none, none, none, none]) rfl rfl ?_
        refine zA_push rfl rfl zkk7 ?_
        cases H
        exact zA_ret rfl rfl
      · rcases zite_e H with ⟨c110, H⟩ | ⟨c110, H⟩
        · refine zA_swT (j := 0) (t := 6) rfl rfl c29 (by rw [c110]; decide) rfl ?_
          refine zA_aldn rfl rfl rfl ?_
          refine zA_aldn rfl rfl rfl ?_
          refine zA_ldn rfl rfl rfl ?_
          refine zA_aldn rfl rfl rfl ?_
          rcases zb_e H with ⟨x103, h102, C, H⟩ | ⟨E, h102, C, H⟩
          · refine zA_callV (as := [zrv x1]) (st' := [zI x26, zrv x1, zrv x0]) rfl rfl rfl (zrcv_Q e23 c24) rfl (zmE14 _) rfl (zmS14 C) ?_
            obtain ⟨p104, i105, e106, c107, H⟩ := zob_e H
            rcases zb_e H with ⟨x109, h108, C, H⟩ | ⟨E, h108, C, H⟩
            · refine zA_callV (as := [zrv x0, zrv x1, zI x26, zI x103]) (st' := []) rfl rfl rfl (zrcv_Q e106 c107) rfl (zmE65 _ _ _ _) rfl (zmS65 C) ?_
              cases H
              exact zA_ret rfl rfl
            · cases H
              exact zA_callX (as := [zrv x0, zrv x1, zI x26, zI x103]) (st' := []) rfl rfl (zrcv_Q e106 c107) rfl (zmE65 _ _ _ _) rfl rfl rfl (zmS65 C)
          · cases H
            exact zA_callX (as := [zrv x1]) (st' := [zI x26, zrv x1, zrv x0]) rfl rfl (zrcv_Q e23 c24) rfl (zmE14 _) rfl rfl rfl (zmS14 C)
        · rcases zite_e H with ⟨c101, H⟩ | ⟨c101, H⟩
          · refine zA_swT (j := 1) (t := 13) rfl rfl c29 (by rw [c101]; decide) rfl ?_
            refine zA_aldn rfl rfl rfl ?_
            obtain ⟨p96, i97, e98, c99, H⟩ := zob_e H
            refine zA_gf0 rfl rfl (Or.inl rfl) e98 c99 ?_
            refine zA_aldn rfl rfl rfl ?_
            refine zA_gf0 rfl rfl (Or.inl rfl) e23 c24 ?_
            refine zA_st (st' := [zI ((zi h27 p96 i97 11) - (zi h27 p21 i22 4))]) rfl rfl rfl rfl ?_
            refine zA_ldn rfl rfl rfl ?_
            rcases zite_e H with ⟨c100, H⟩ | ⟨c100, H⟩
            · refine zA_brT (c := x26 ≤ ((zi h27 p96 i97 11) - (zi h27 p21 i22 4))) rfl rfl rfl c100 ?_
              refine zA_tr (L := [none, none, none, none]) rfl rfl ?_
              refine zA_push rfl rfl zkk7 ?_
              cases H
              exact zA_ret rfl rfl
            · refine zA_brF (c := x26 ≤ ((zi h27 p96 i97 11) - (zi h27 p21 i22 4))) rfl rfl rfl c100 ?_
              refine zA_push rfl rfl zkk0 ?_
              refine zA_go rfl rfl ?_
              refine zA_tr (L := [none, none, none, none]) rfl rfl ?_
              cases H
              exact zA_ret rfl rfl
          · rcases zite_e H with ⟨c95, H⟩ | ⟨c95, H⟩
            · refine zA_swT (j := 2) (t := 24) rfl rfl c29 (by rw [c95]; decide) rfl ?_
              refine zA_aldn rfl rfl rfl ?_
              obtain ⟨p57, i58, e59, c60, H⟩ := zob_e H
              refine zA_gf3 rfl rfl e59 c60 ?_
              refine zA_aldn rfl rfl rfl ?_
              refine zA_gf3 rfl rfl e23 c24 ?_
              obtain ⟨p61, i62, e63, c64, H⟩ := zob_e H
              refine zA_gf0 rfl rfl (Or.inl rfl) e63 c64 ?_
              obtain ⟨p65, i66, j67, v72, e68, c69, c70, e71, e73, H⟩ := zra_e H
              refine zA_aal rfl rfl e68 c69 c70 e71 e73 ?_
              obtain ⟨p74, i75, e76, c77, H⟩ := zob_e H
              refine zA_gf3 rfl rfl e76 c77 ?_
              refine zA_ldn rfl rfl rfl ?_
              obtain ⟨p78, i79, j80, v85, e81, c82, c83, e84, e86, H⟩ := zra_e H
              refine zA_aal rfl rfl e81 c82 c83 e84 e86 ?_
              refine zA_astn2 rfl rfl rfl (zset1 (L' := [some (zrv x0), some (zrv x1), some (zI x26), some (zrv v85)]) (zcat_rv _) rfl (zpcV rfl rfl)) ?_
              refine zA_aldn rfl rfl rfl ?_
              obtain ⟨p87, i88, e89, c90, H⟩ := zob_e H
              refine zA_gf3 rfl rfl e89 c90 ?_
              refine zA_aldn rfl rfl rfl ?_
              refine zA_gf3 rfl rfl e23 c24 ?_
              rcases zite_e H with ⟨c91, H⟩ | ⟨c91, H⟩
              · refine zA_brF' (c := (zr h27 p87 i88 1) = (zr h27 p21 i22 0)) rfl rfl zIf_ane c91 ?_
                refine zA_aldn rfl rfl rfl ?_
                rcases zb_e H with ⟨x93, h92, C, H⟩ | ⟨E, h92, C, H⟩
                · refine zA_callV (as := [zrv v85]) (st' := []) rfl rfl rfl (zrcv_Q e89 c90) rfl (zmE34 _) rfl (zmS34 C) ?_
                  rcases zite_e H with ⟨c94, H⟩ | ⟨c94, H⟩
                  · refine zA_brF' (c := x93 = 0) rfl rfl rfl c94 ?_
                    refine zA_tr (L := [none, none, none, none]) rfl rfl ?_
                    refine zA_push rfl rfl zkk31 ?_
                    refine zA_go rfl rfl ?_
                    cases H
                    exact zA_ret rfl rfl
                  · refine zA_brT' (c := x93 = 0) rfl rfl rfl c94 ?_
                    refine zA_tr (L := [none, none, none, none]) rfl rfl ?_
                    refine zA_push rfl rfl zkk7 ?_
                    cases H
                    exact zA_ret rfl rfl
                · cases H
                  exact zA_callX (as := [zrv v85]) (st' := []) rfl rfl (zrcv_Q e89 c90) rfl (zmE34 _) rfl rfl rfl (zmS34 C)
              · refine zA_brT' (c := (zr h27 p87 i88 1) = (zr h27 p21 i22 0)) rfl rfl zIf_ane c91 ?_
                refine zA_tr (L := [none, none, none, none]) rfl rfl ?_
                refine zA_push rfl rfl zkk31 ?_
                refine zA_go rfl rfl ?_
                cases H
                exact zA_ret rfl rfl
            · rcases zite_e H with ⟨c56, H⟩ | ⟨c56, H⟩
              · refine zA_swT (j := 3) (t := 46) rfl rfl c29 (by rw [c56]; decide) rfl ?_
                refine zA_tr (L := [none, some (zrv x1), some (zI x26), none]) rfl rfl ?_
                refine zA_aldn rfl rfl rfl ?_
                refine zA_gf0 rfl rfl (Or.inl rfl) e23 c24 ?_
                rcases zb_e H with ⟨x54, h53, C, H⟩ | ⟨E, h53, C, H⟩
                · refine zA_callV (as := [zI (zi h27 p21 i22 5)]) (st' := []) rfl rfl rfl rfl rfl (zmE292 _) rfl (zmS292 C) ?_
                  refine zA_ldn rfl rfl rfl ?_
                  rcases zite_e H with ⟨c55, H⟩ | ⟨c55, H⟩
                  · refine zA_brT (c := x26 ≤ x54) rfl rfl rfl c55 ?_
                    refine zA_tr (L := [none, none, none, none]) rfl rfl ?_
                    refine zA_push rfl rfl zkk7 ?_
                    cases H
                    exact zA_ret rfl rfl
                  · refine zA_brF (c := x26 ≤ x54) rfl rfl rfl c55 ?_
                    refine zA_push rfl rfl zkk13 ?_
                    refine zA_go rfl rfl ?_
                    refine zA_tr (L := [none, none, none, none]) rfl rfl ?_
                    cases H
                    exact zA_ret rfl rfl
                · cases H
                  exact zA_callX (as := [zI (zi h27 p21 i22 5)]) (st' := []) rfl rfl rfl rfl (zmE292 _) rfl rfl rfl (zmS292 C)
              · rcases zite_e H with ⟨c52, H⟩ | ⟨c52, H⟩
                · refine zA_swT (j := 4) (t := 6) rfl rfl c29 (by rw [c52]; decide) rfl ?_
                  refine zA_aldn rfl rfl rfl ?_
                  refine zA_aldn rfl rfl rfl ?_
                  refine zA_ldn rfl rfl rfl ?_
                  refine zA_aldn rfl rfl rfl ?_
                  rcases zb_e H with ⟨x45, h44, C, H⟩ | ⟨E, h44, C, H⟩
                  · refine zA_callV (as := [zrv x1]) (st' := [zI x26, zrv x1, zrv x0]) rfl rfl rfl (zrcv_Q e23 c24) rfl (zmE14 _) rfl (zmS14 C) ?_
                    obtain ⟨p46, i47, e48, c49, H⟩ := zob_e H
                    rcases zb_e H with ⟨x51, h50, C, H⟩ | ⟨E, h50, C, H⟩
                    · refine zA_callV (as := [zrv x0, zrv x1, zI x26, zI x45]) (st' := []) rfl rfl rfl (zrcv_Q e48 c49) rfl (zmE65 _ _ _ _) rfl (zmS65 C) ?_
                      cases H
                      exact zA_ret rfl rfl
                    · cases H
                      exact zA_callX (as := [zrv x0, zrv x1, zI x26, zI x45]) (st' := []) rfl rfl (zrcv_Q e48 c49) rfl (zmE65 _ _ _ _) rfl rfl rfl (zmS65 C)
                  · cases H
                    exact zA_callX (as := [zrv x1]) (st' := [zI x26, zrv x1, zrv x0]) rfl rfl (zrcv_Q e23 c24) rfl (zmE14 _) rfl rfl rfl (zmS14 C)
                · rcases zite_e H with ⟨c43, H⟩ | ⟨c43, H⟩
                  · refine zA_swT (j := 5) (t := 55) rfl rfl c29 (by rw [c43]; decide) rfl ?_
                    refine zA_tr (L := [none, some (zrv x1), none, none]) rfl rfl ?_
                    refine zA_aldn rfl rfl rfl ?_
                    refine zA_gf0 rfl rfl (Or.inr rfl) e23 c24 ?_
                    rcases zite_e H with ⟨c42, H⟩ | ⟨c42, H⟩
                    · refine zA_brT (c := (zi h27 p21 i22 8) = 0) rfl rfl rfl c42 ?_
                      refine zA_tr (L := [none, none, none, none]) rfl rfl ?_
                      refine zA_push rfl rfl zkk11 ?_
                      cases H
                      exact zA_ret rfl rfl
                    · refine zA_brF (c := (zi h27 p21 i22 8) = 0) rfl rfl rfl c42 ?_
                      refine zA_push rfl rfl zkk7 ?_
                      refine zA_go rfl rfl ?_
                      refine zA_tr (L := [none, none, none, none]) rfl rfl ?_
                      cases H
                      exact zA_ret rfl rfl
                  · rcases zite_e H with ⟨c41, H⟩ | ⟨c41, H⟩
                    · refine zA_swT (j := 6) (t := 62) rfl rfl c29 (by rw [c41]; decide) rfl ?_
                      refine zA_aldn rfl rfl rfl ?_
                      refine zA_aldn rfl rfl rfl ?_
                      refine zA_gf3 rfl rfl e23 c24 ?_
                      obtain ⟨p30, i31, e32, c33, H⟩ := zob_e H
                      refine zA_gf0 rfl rfl (Or.inl rfl) e32 c33 ?_
                      refine zA_ldn rfl rfl rfl ?_
                      obtain ⟨p34, i35, e36, c37, H⟩ := zob_e H
                      rcases zb_e H with ⟨x39, h38, C, H⟩ | ⟨E, h38, C, H⟩
                      · refine zA_callV (as := [zrv x0, zI (zi h27 p30 i31 1), zI x26]) (st' := []) rfl rfl rfl (zrcv_Q e36 c37) rfl (zmE72 _ _ _) rfl (zmS72 C) ?_
                        rcases zite_e H with ⟨c40, H⟩ | ⟨c40, H⟩
                        · refine zA_brT (c := x39 = 0) rfl rfl rfl c40 ?_
                          refine zA_tr (L := [none, none, none, none]) rfl rfl ?_
                          refine zA_push rfl rfl zkk33 ?_
                          cases H
                          exact zA_ret rfl rfl
                        · refine zA_brF (c := x39 = 0) rfl rfl rfl c40 ?_
                          refine zA_push rfl rfl zkk7 ?_
                          refine zA_go rfl rfl ?_
                          refine zA_tr (L := [none, none, none, none]) rfl rfl ?_
                          cases H
                          exact zA_ret rfl rfl
                      · cases H
                        exact zA_callX (as := [zrv x0, zI (zi h27 p30 i31 1), zI x26]) (st' := []) rfl rfl (zrcv_Q e36 c37) rfl (zmE72 _ _ _) rfl rfl rfl (zmS72 C)
                    · cases H
    · cases H
      exact zA_callX (as := [zrv x1]) (st' := []) rfl rfl (zrcv_Q e23 c24) rfl (zmE12 _) rfl rfl rfl (zmS12 C)
  · cases H
    exact zA_callX (as := [zrv x1]) (st' := []) rfl rfl (zrcv_Q e23 c24) rfl (zmE13 _) rfl rfl rfl (zmS13 C)
theorem zmE64 (x0 : zq) (x1 : zq) : zpad (zPr.2.1 64).1 (zil [zrv x0, zrv x1]) = [some (zrv x0), some (zrv x1), none, none] := by
  simp only [zil_A, zil_I, zil_F, zil_D, zil_N]
  rfl
def zm18_8 : Nat → zq → Int32 → zH → zRs Unit
  | 0, _, _, _ => none
  | n + 1, x0, x1, h =>
    if (17 : Int32) ≤ x1 then
      some (.inl (), h)
    else
      zob 7 x0 fun p22 i23 =>
      zar 1 (zr h p22 i23 3) x1 h fun p26 i27 j28 =>
      zlet (zsi h p26 i27 j28 (0 : Int32)) fun h33 =>
      zlet (x1 + (1 : Int32)) fun x35 =>
      zm18_8 n x0 x35 h33
theorem zmS18_8 : ∀ (n : Nat) (x0 : zq) (x1 : Int32) (h : zH) (r : Unit ⊕ Nat) (h' : zH), zm18_8 n x0 x1 h = some (r, h') → zAt 18 8 [some (zrv x0), some (zI x1)] [] h (zoU r) h' := by
  intro n
  induction n with
  | zero => intro x0 x1 h r h' H; cases H
  | succ n ih =>
    intro x0 x1 h r h' H
    unfold zm18_8 at H
    refine zA_ldn rfl rfl rfl ?_
    refine zA_push rfl rfl zkk1 ?_
    rcases zite_e H with ⟨c21, H⟩ | ⟨c21, H⟩
    · refine zA_brT (c := (17 : Int32) ≤ x1) rfl rfl rfl c21 ?_
      refine zA_tr (L := [none, none]) rfl rfl ?_
      cases H
      exact zA_ret rfl rfl
    · refine zA_brF (c := (17 : Int32) ≤ x1) rfl rfl rfl c21 ?_
      refine zA_aldn rfl rfl rfl ?_
      obtain ⟨p22, i23, e24, c25, H⟩ := zob_e H
      refine zA_gf3 rfl rfl e24 c25 ?_
      refine zA_ldn rfl rfl rfl ?_
      refine zA_push rfl rfl zkk7 ?_
      obtain ⟨p26, i27, j28, e29, c30, c31, e32, H⟩ := zar_e H
      obtain ⟨h33, e34, H⟩ := zlet_e H
      refine zA_ias rfl rfl e29 c30 c31 e32 e34 ?_
      obtain ⟨x35, e36, H⟩ := zlet_e H
      refine zA_inc rfl rfl rfl (e36.trans (congrArg (_ + ·) zkk8)) (zset1 (L' := [some (zrv x0), some (zI x35)]) rfl rfl (zpcV rfl (zcat_rv _))) ?_
      refine zA_go rfl rfl ?_
      exact zA_tr (L := [some (zrv x0), some (zI x35)]) rfl rfl (ih _ _ _ _ _ H)
-- 18: ReleaseHouse$Sample.empty()V
def zm18 (x0 : zq) (h : zH) : zRs Unit :=
  zob 7 x0 fun p21 i22 =>
  zlet (zsi h p21 i22 1 (0 : Int32)) fun h25 =>
  zlet (zsi h25 p21 i22 2 (0 : Int32)) fun h27 =>
  zm18_8 zN0 x0 (0 : Int32) h27
theorem zmS18 {x0 : zq} {h : zH} {r : Unit ⊕ Nat} {h' : zH} (H : zm18 x0 h = some (r, h')) : zAt 18 0 [some (zrv x0), none] [] h (zoU r) h' := by
  unfold zm18 at H
  refine zA_aldn rfl rfl rfl ?_
  refine zA_push rfl rfl zkk7 ?_
  obtain ⟨p21, i22, e23, c24, H⟩ := zob_e H
  obtain ⟨h25, e26, H⟩ := zlet_e H
  refine zA_pf0 rfl rfl e23 c24 e26 ?_
  refine zA_aldn rfl rfl rfl ?_
  refine zA_push rfl rfl zkk7 ?_
  obtain ⟨h27, e28, H⟩ := zlet_e H
  refine zA_pf0 rfl rfl e23 c24 e28 ?_
  refine zA_push rfl rfl zkk7 ?_
  refine zA_istn2 rfl rfl rfl (zset1 (L' := [some (zrv x0), some (zI (0 : Int32))]) rfl rfl (zpcV rfl (zcat_rv _))) ?_
  exact zA_tr (L := [some (zrv x0), some (zI (0 : Int32))]) rfl rfl (zmS18_8 zN0 _ _ _ _ _ H)
theorem zmE18 (x0 : zq) : zpad (zPr.2.1 18).1 (zil [zrv x0]) = [some (zrv x0), none] := by
  simp only [zil_A, zil_I, zil_F, zil_D, zil_N]
  rfl
-- 30: ReleaseHouse$Spot.addUse(LReleaseHouse$Artefact;I)V
def zm30 (x0 : zq) (x1 : Int32) (h : zH) : zRs Unit :=
  if x0 = none then
    some (.inl (), h)
  else
    zob 0 x0 fun p22 i23 =>
    zlet (zsi h p22 i23 10 ((zi h p22 i23 10) + x1)) fun h26 =>
    some (.inl (), h26)
theorem zmS30 {x0 : zq} {x1 : Int32} {h : zH} {r : Unit ⊕ Nat} {h' : zH} (H : zm30 x0 x1 h = some (r, h')) : zAt 30 0 [some (zrv x0), some (zI x1)] [] h (zoU r) h' := by
  unfold zm30 at H
  refine zA_aldn rfl rfl rfl ?_
  rcases zite_e H with ⟨c21, H⟩ | ⟨c21, H⟩
  · refine zA_brT (c := x0 = none) rfl rfl zIf_null c21 ?_
    refine zA_tr (L := [none, none]) rfl rfl ?_
    cases H
    exact zA_ret rfl rfl
  · refine zA_brF (c := x0 = none) rfl rfl zIf_null c21 ?_
    refine zA_aldn rfl rfl rfl ?_
    refine zA_dup rfl rfl (zcat_rv _) ?_
    obtain ⟨p22, i23, e24, c25, H⟩ := zob_e H
    refine zA_gf0 rfl rfl (Or.inl rfl) e24 c25 ?_
    refine zA_ldn rfl rfl rfl ?_
    refine zA_st (st' := [zI ((zi h p22 i23 10) + x1), zrv x0]) rfl rfl rfl rfl ?_
    obtain ⟨h26, e27, H⟩ := zlet_e H
    refine zA_pf0 rfl rfl e24 c25 e27 ?_
    refine zA_tr (L := [none, none]) rfl rfl ?_
    cases H
    exact zA_ret rfl rfl
theorem zmE30 (x0 : zq) (x1 : Int32) : zpad (zPr.2.1 30).1 (zil [zrv x0, zI x1]) = [some (zrv x0), some (zI x1)] := by
  simp only [zil_A, zil_I, zil_F, zil_D, zil_N]
  rfl
def zm29_33 (x0 : zq) (x1 : zq) (x2 : zq) (x3 : Int32) (h : zH) : zRs Unit :=
  zob 9 x0 fun p21 i22 =>
  zb (zm30 (zr h p21 i22 0) (-1 : Int32) h) fun _ h25 =>
  zb (zm30 (zr h25 p21 i22 1) (-1 : Int32) h25) fun _ h26 =>
  zb (zm30 x1 (1 : Int32) h26) fun _ h27 =>
  zb (zm30 x2 (1 : Int32) h27) fun _ h28 =>
  zlet (zsr h28 p21 i22 0 x1) fun h29 =>
  zlet (zsr h29 p21 i22 1 x2) fun h31 =>
  zlet (zsi h31 p21 i22 2 x3) fun h33 =>
  some (.inl (), h33)
theorem zmS29_33 : ∀ (x0 : zq) (x1 : zq) (x2 : zq) (x3 : Int32) (h : zH) (r : Unit ⊕ Nat) (h' : zH), zm29_33 x0 x1 x2 x3 h = some (r, h') → zAt 29 33 [some (zrv x0), some (zrv x1), some (zrv x2), some (zI x3)] [] h (zoU r) h' := by
  intro x0 x1 x2 x3 h r h' H
  unfold zm29_33 at H
  refine zA_aldn rfl rfl rfl ?_
  obtain ⟨p21, i22, e23, c24, H⟩ := zob_e H
  refine zA_gf3 rfl rfl e23 c24 ?_
  refine zA_push rfl rfl zkk6 ?_
  rcases zb_e H with ⟨u38, h25, C, H⟩ | ⟨E, h25, C, H⟩
  · refine zA_callU (as := [zrv (zr h p21 i22 0), zI (-1 : Int32)]) (st' := []) rfl rfl rfl rfl rfl (zmE30 _ _) rfl (zmS30 C) ?_
    refine zA_aldn rfl rfl rfl ?_
    refine zA_gf3 rfl rfl e23 c24 ?_
    refine zA_push rfl rfl zkk6 ?_
    rcases zb_e H with ⟨u37, h26, C, H⟩ | ⟨E, h26, C, H⟩
    · refine zA_callU (as := [zrv (zr h25 p21 i22 1), zI (-1 : Int32)]) (st' := []) rfl rfl rfl rfl rfl (zmE30 _ _) rfl (zmS30 C) ?_
      refine zA_aldn rfl rfl rfl ?_
      refine zA_push rfl rfl zkk5 ?_
      rcases zb_e H with ⟨u36, h27, C, H⟩ | ⟨E, h27, C, H⟩
      · refine zA_callU (as := [zrv x1, zI (1 : Int32)]) (st' := []) rfl rfl rfl rfl rfl (zmE30 _ _) rfl (zmS30 C) ?_
        refine zA_aldn rfl rfl rfl ?_
        refine zA_push rfl rfl zkk5 ?_
        rcases zb_e H with ⟨u35, h28, C, H⟩ | ⟨E, h28, C, H⟩
        · refine zA_callU (as := [zrv x2, zI (1 : Int32)]) (st' := []) rfl rfl rfl rfl rfl (zmE30 _ _) rfl (zmS30 C) ?_
          refine zA_aldn rfl rfl rfl ?_
          refine zA_aldn rfl rfl rfl ?_
          obtain ⟨h29, e30, H⟩ := zlet_e H
          refine zA_pf3 rfl rfl e23 c24 e30 ?_
          refine zA_aldn rfl rfl rfl ?_
          refine zA_aldn rfl rfl rfl ?_
          obtain ⟨h31, e32, H⟩ := zlet_e H
          refine zA_pf3 rfl rfl e23 c24 e32 ?_
          refine zA_aldn rfl rfl rfl ?_
          refine zA_ldn rfl rfl rfl ?_
          obtain ⟨h33, e34, H⟩ := zlet_e H
          refine zA_pf0 rfl rfl e23 c24 e34 ?_
          cases H
          exact zA_ret rfl rfl
        · cases H
          exact zA_callX (as := [zrv x2, zI (1 : Int32)]) (st' := []) rfl rfl rfl rfl (zmE30 _ _) rfl rfl rfl (zmS30 C)
      · cases H
        exact zA_callX (as := [zrv x1, zI (1 : Int32)]) (st' := []) rfl rfl rfl rfl (zmE30 _ _) rfl rfl rfl (zmS30 C)
    · cases H
      exact zA_callX (as := [zrv (zr h25 p21 i22 1), zI (-1 : Int32)]) (st' := []) rfl rfl rfl rfl (zmE30 _ _) rfl rfl rfl (zmS30 C)
  · cases H
    exact zA_callX (as := [zrv (zr h p21 i22 0), zI (-1 : Int32)]) (st' := []) rfl rfl rfl rfl (zmE30 _ _) rfl rfl rfl (zmS30 C)
def zm29_24 (x0 : zq) (x1 : zq) (x2 : zq) (x3 : Int32) (h : zH) : zRs Unit :=
  zob 9 x0 fun p21 i22 =>
  zlet (zsd h p21 i22 4 (4607182418800017408 : UInt64)) fun h25 =>
  zob 7 (zr h25 p21 i22 5) fun p27 i28 =>
  zb (zm18 (zr h25 p21 i22 5) h25) fun _ h31 =>
  zob 7 (zr h31 p21 i22 6) fun p32 i33 =>
  zb (zm18 (zr h31 p21 i22 6) h31) fun _ h36 =>
  zm29_33 x0 x1 x2 x3 h36
theorem zmS29_24 : ∀ (x0 : zq) (x1 : zq) (x2 : zq) (x3 : Int32) (h : zH) (r : Unit ⊕ Nat) (h' : zH), zm29_24 x0 x1 x2 x3 h = some (r, h') → zAt 29 24 [some (zrv x0), some (zrv x1), some (zrv x2), some (zI x3)] [] h (zoU r) h' := by
  intro x0 x1 x2 x3 h r h' H
  unfold zm29_24 at H
  refine zA_aldn rfl rfl rfl ?_
  refine zA_push rfl rfl zkk2 ?_
  obtain ⟨p21, i22, e23, c24, H⟩ := zob_e H
  obtain ⟨h25, e26, H⟩ := zlet_e H
  refine zA_pf2 rfl rfl e23 c24 e26 ?_
  refine zA_aldn rfl rfl rfl ?_
  refine zA_gf3 rfl rfl e23 c24 ?_
  obtain ⟨p27, i28, e29, c30, H⟩ := zob_e H
  rcases zb_e H with ⟨u38, h31, C, H⟩ | ⟨E, h31, C, H⟩
  · refine zA_callU (as := [zrv (zr h25 p21 i22 5)]) (st' := []) rfl rfl rfl (zrcv_Q e29 c30) rfl (zmE18 _) rfl (zmS18 C) ?_
    refine zA_aldn rfl rfl rfl ?_
    refine zA_gf3 rfl rfl e23 c24 ?_
    obtain ⟨p32, i33, e34, c35, H⟩ := zob_e H
    rcases zb_e H with ⟨u37, h36, C, H⟩ | ⟨E, h36, C, H⟩
    · refine zA_callU (as := [zrv (zr h31 p21 i22 6)]) (st' := []) rfl rfl rfl (zrcv_Q e34 c35) rfl (zmE18 _) rfl (zmS18 C) ?_
      exact zA_tr (L := [some (zrv x0), some (zrv x1), some (zrv x2), some (zI x3)]) rfl rfl (zmS29_33 _ _ _ _ _ _ _ H)
    · cases H
      exact zA_callX (as := [zrv (zr h31 p21 i22 6)]) (st' := []) rfl rfl (zrcv_Q e34 c35) rfl (zmE18 _) rfl rfl rfl (zmS18 C)
  · cases H
    exact zA_callX (as := [zrv (zr h25 p21 i22 5)]) (st' := []) rfl rfl (zrcv_Q e29 c30) rfl (zmE18 _) rfl rfl rfl (zmS18 C)
def zm29_13 (x0 : zq) (x1 : zq) (x2 : zq) (x3 : Int32) (h : zH) : zRs Unit :=
  zob 9 x0 fun p21 i22 =>
  zlet (zsi h p21 i22 3 (1 : Int32)) fun h25 =>
  if x1 = (zr h25 p21 i22 0) then
    if x2 = (zr h25 p21 i22 1) then
      zm29_33 x0 x1 x2 x3 h25
    else
      zm29_24 x0 x1 x2 x3 h25
  else
    zm29_24 x0 x1 x2 x3 h25
theorem zmS29_13 : ∀ (x0 : zq) (x1 : zq) (x2 : zq) (x3 : Int32) (h : zH) (r : Unit ⊕ Nat) (h' : zH), zm29_13 x0 x1 x2 x3 h = some (r, h') → zAt 29 13 [some (zrv x0), some (zrv x1), some (zrv x2), some (zI x3)] [] h (zoU r) h' := by
  intro x0 x1 x2 x3 h r h' H
  unfold zm29_13 at H
  refine zA_aldn rfl rfl rfl ?_
  refine zA_push rfl rfl zkk5 ?_
  obtain ⟨p21, i22, e23, c24, H⟩ := zob_e H
  obtain ⟨h25, e26, H⟩ := zlet_e H
  refine zA_pf1 rfl rfl e23 c24 (by decide) e26 ?_
  refine zA_aldn rfl rfl rfl ?_
  refine zA_aldn rfl rfl rfl ?_
  refine zA_gf3 rfl rfl e23 c24 ?_
  rcases zite_e H with ⟨c27, H⟩ | ⟨c27, H⟩
  · refine zA_brF' (c := x1 = (zr h25 p21 i22 0)) rfl rfl zIf_ane c27 ?_
    refine zA_aldn rfl rfl rfl ?_
    refine zA_aldn rfl rfl rfl ?_
    refine zA_gf3 rfl rfl e23 c24 ?_
    rcases zite_e H with ⟨c28, H⟩ | ⟨c28, H⟩
    · refine zA_brT (c := x2 = (zr h25 p21 i22 1)) rfl rfl zIf_aeq c28 ?_
      exact zA_tr (L := [some (zrv x0), some (zrv x1), some (zrv x2), some (zI x3)]) rfl rfl (zmS29_33 _ _ _ _ _ _ _ H)
    · refine zA_brF (c := x2 = (zr h25 p21 i22 1)) rfl rfl zIf_aeq c28 ?_
      exact zA_tr (L := [some (zrv x0), some (zrv x1), some (zrv x2), some (zI x3)]) rfl rfl (zmS29_24 _ _ _ _ _ _ _ H)
  · refine zA_brT' (c := x1 = (zr h25 p21 i22 0)) rfl rfl zIf_ane c27 ?_
    exact zA_tr (L := [some (zrv x0), some (zrv x1), some (zrv x2), some (zI x3)]) rfl rfl (zmS29_24 _ _ _ _ _ _ _ H)
-- 29: ReleaseHouse$Spot.become(LReleaseHouse$Artefact;LReleaseHouse$Artefact;I)V
def zm29 (x0 : zq) (x1 : zq) (x2 : zq) (x3 : Int32) (h : zH) : zRs Unit :=
  zob 9 x0 fun p21 i22 =>
  if x1 = (zr h p21 i22 0) then
    if x2 = (zr h p21 i22 1) then
      if x3 = (zi h p21 i22 2) then
        some (.inl (), h)
      else
        zm29_13 x0 x1 x2 x3 h
    else
      zm29_13 x0 x1 x2 x3 h
  else
    zm29_13 x0 x1 x2 x3 h
theorem zmS29 {x0 : zq} {x1 : zq} {x2 : zq} {x3 : Int32} {h : zH} {r : Unit ⊕ Nat} {h' : zH} (H : zm29 x0 x1 x2 x3 h = some (r, h')) : zAt 29 0 [some (zrv x0), some (zrv x1), some (zrv x2), some (zI x3)] [] h (zoU r) h' := by
  unfold zm29 at H
  refine zA_aldn rfl rfl rfl ?_
  refine zA_aldn rfl rfl rfl ?_
  obtain ⟨p21, i22, e23, c24, H⟩ := zob_e H
  refine zA_gf3 rfl rfl e23 c24 ?_
  rcases zite_e H with ⟨c25, H⟩ | ⟨c25, H⟩
  · refine zA_brF' (c := x1 = (zr h p21 i22 0)) rfl rfl zIf_ane c25 ?_
    refine zA_aldn rfl rfl rfl ?_
    refine zA_aldn rfl rfl rfl ?_
    refine zA_gf3 rfl rfl e23 c24 ?_
    rcases zite_e H with ⟨c26, H⟩ | ⟨c26, H⟩
    · refine zA_brF' (c := x2 = (zr h p21 i22 1)) rfl rfl zIf_ane c26 ?_
      refine zA_ldn rfl rfl rfl ?_
      refine zA_aldn rfl rfl rfl ?_
      refine zA_gf0 rfl rfl (Or.inl rfl) e23 c24 ?_
      rcases zite_e H with ⟨c27, H⟩ | ⟨c27, H⟩
      · refine zA_brF' (c := x3 = (zi h p21 i22 2)) rfl rfl rfl c27 ?_
        cases H
        exact zA_ret rfl rfl
      · refine zA_brT' (c := x3 = (zi h p21 i22 2)) rfl rfl rfl c27 ?_
        exact zA_tr (L := [some (zrv x0), some (zrv x1), some (zrv x2), some (zI x3)]) rfl rfl (zmS29_13 _ _ _ _ _ _ _ H)
    · refine zA_brT' (c := x2 = (zr h p21 i22 1)) rfl rfl zIf_ane c26 ?_
      exact zA_tr (L := [some (zrv x0), some (zrv x1), some (zrv x2), some (zI x3)]) rfl rfl (zmS29_13 _ _ _ _ _ _ _ H)
  · refine zA_brT' (c := x1 = (zr h p21 i22 0)) rfl rfl zIf_ane c25 ?_
    exact zA_tr (L := [some (zrv x0), some (zrv x1), some (zrv x2), some (zI x3)]) rfl rfl (zmS29_13 _ _ _ _ _ _ _ H)
theorem zmE29 (x0 : zq) (x1 : zq) (x2 : zq) (x3 : Int32) : zpad (zPr.2.1 29).1 (zil [zrv x0, zrv x1, zrv x2, zI x3]) = [some (zrv x0), some (zrv x1), some (zrv x2), some (zI x3)] := by
  simp only [zil_A, zil_I, zil_F, zil_D, zil_N]
  rfl
def zm58_26 (k8 : zq → zq → Int32 → zH → zRs Unit) (x1 : zq) (x2 : zq) (x3 : Int32) (h : zH) : zRs Unit :=
  zlet (x3 + (1 : Int32)) fun x21 =>
  k8 x1 x2 x21 h
theorem zmS58_26 {k8 : zq → zq → Int32 → zH → zRs Unit} (hk8 : ∀ (x1 : zq) (x2 : zq) (x3 : Int32) (h : zH) (r : Unit ⊕ Nat) (h' : zH), k8 x1 x2 x3 h = some (r, h') → zAt 58 8 [none, some (zrv x1), some (zrv x2), some (zI x3), none] [] h (zoU r) h') : ∀ (x1 : zq) (x2 : zq) (x3 : Int32) (h : zH) (r : Unit ⊕ Nat) (h' : zH), zm58_26 k8 x1 x2 x3 h = some (r, h') → zAt 58 26 [none, some (zrv x1), some (zrv x2), some (zI x3), none] [] h (zoU r) h' := by
  intro x1 x2 x3 h r h' H
  unfold zm58_26 at H
  obtain ⟨x21, e22, H⟩ := zlet_e H
  refine zA_inc rfl rfl rfl (e22.trans (congrArg (_ + ·) zkk8)) (zset1 (L' := [none, some (zrv x1), some (zrv x2), some (zI x21), none]) rfl rfl (zpcV rfl (zcat_rv _))) ?_
  refine zA_go rfl rfl ?_
  exact zA_tr (L := [none, some (zrv x1), some (zrv x2), some (zI x21), none]) rfl rfl (hk8 _ _ _ _ _ _ H)
def zm58_8 : Nat → zq → zq → Int32 → zH → zRs Unit
  | 0, _, _, _, _ => none
  | n + 1, x1, x2, x3, h =>
    if (3 : Int32) ≤ x3 then
      some (.inl (), h)
    else
      zob 8 x2 fun p22 i23 =>
      zra (zr h p22 i23 0) x3 h fun v33 =>
      zob 9 v33 fun p35 i36 =>
      if (zr h p35 i36 1) = x1 then
        zb (zm29 v33 (zr h p35 i36 0) (none : zq) (0 : Int32) h) fun _ h40 =>
        zm58_26 (zm58_8 n) x1 x2 x3 h40
      else
        zm58_26 (zm58_8 n) x1 x2 x3 h
theorem zmS58_8 : ∀ (n : Nat) (x1 : zq) (x2 : zq) (x3 : Int32) (h : zH) (r : Unit ⊕ Nat) (h' : zH), zm58_8 n x1 x2 x3 h = some (r, h') → zAt 58 8 [none, some (zrv x1), some (zrv x2), some (zI x3), none] [] h (zoU r) h' := by
  intro n
  induction n with
  | zero => intro x1 x2 x3 h r h' H; cases H
  | succ n ih =>
    intro x1 x2 x3 h r h' H
    unfold zm58_8 at H
    refine zA_ldn rfl rfl rfl ?_
    refine zA_push rfl rfl zkk3 ?_
    rcases zite_e H with ⟨c21, H⟩ | ⟨c21, H⟩
    · refine zA_brT (c := (3 : Int32) ≤ x3) rfl rfl rfl c21 ?_
      refine zA_tr (L := [none, none, none, none, none]) rfl rfl ?_
      cases H
      exact zA_ret rfl rfl
    · refine zA_brF (c := (3 : Int32) ≤ x3) rfl rfl rfl c21 ?_
      refine zA_aldn rfl rfl rfl ?_
      obtain ⟨p22, i23, e24, c25, H⟩ := zob_e H
      refine zA_gf3 rfl rfl e24 c25 ?_
      refine zA_ldn rfl rfl rfl ?_
      obtain ⟨p26, i27, j28, v33, e29, c30, c31, e32, e34, H⟩ := zra_e H
      refine zA_aal rfl rfl e29 c30 c31 e32 e34 ?_
      refine zA_ast2 rfl rfl rfl (zset1 (L' := [none, some (zrv x1), some (zrv x2), some (zI x3), some (zrv v33)]) (zcat_rv _) rfl (zpcV rfl rfl)) ?_
      refine zA_ald rfl rfl rfl ?_
      obtain ⟨p35, i36, e37, c38, H⟩ := zob_e H
      refine zA_gf3 rfl rfl e37 c38 ?_
      refine zA_aldn rfl rfl rfl ?_
      rcases zite_e H with ⟨c39, H⟩ | ⟨c39, H⟩
      · refine zA_brF' (c := (zr h p35 i36 1) = x1) rfl rfl zIf_ane c39 ?_
        refine zA_ald rfl rfl rfl ?_
        refine zA_ald rfl rfl rfl ?_
        refine zA_gf3 rfl rfl e37 c38 ?_
        refine zA_push rfl rfl zkk22 ?_
        refine zA_push rfl rfl zkk7 ?_
        rcases zb_e H with ⟨u41, h40, C, H⟩ | ⟨E, h40, C, H⟩
        · refine zA_callU (as := [zrv v33, zrv (zr h p35 i36 0), zrv (none : zq), zI (0 : Int32)]) (st' := []) rfl rfl rfl (zrcv_Q e37 c38) rfl (zmE29 _ _ _ _) rfl (zmS29 C) ?_
          exact zA_tr (L := [none, some (zrv x1), some (zrv x2), some (zI x3), none]) rfl rfl (zmS58_26 ih _ _ _ _ _ _ H)
        · cases H
          exact zA_callX (as := [zrv v33, zrv (zr h p35 i36 0), zrv (none : zq), zI (0 : Int32)]) (st' := []) rfl rfl (zrcv_Q e37 c38) rfl (zmE29 _ _ _ _) rfl rfl rfl (zmS29 C)
      · refine zA_brT' (c := (zr h p35 i36 1) = x1) rfl rfl zIf_ane c39 ?_
        exact zA_tr (L := [none, some (zrv x1), some (zrv x2), some (zI x3), none]) rfl rfl (zmS58_26 ih _ _ _ _ _ _ H)
-- 58: ReleaseHouse.dropCandidates(LReleaseHouse$Artefact;)V
def zm58 (x0 : zq) (x1 : zq) (h : zH) : zRs Unit :=
  zob 11 x0 fun p21 i22 =>
  zob 0 x1 fun p25 i26 =>
  zra (zr h p21 i22 6) (zi h p25 i26 1) h fun v36 =>
  zm58_8 zN0 x1 v36 (0 : Int32) h
theorem zmS58 {x0 : zq} {x1 : zq} {h : zH} {r : Unit ⊕ Nat} {h' : zH} (H : zm58 x0 x1 h = some (r, h')) : zAt 58 0 [some (zrv x0), some (zrv x1), none, none, none] [] h (zoU r) h' := by
  unfold zm58 at H
  refine zA_aldn rfl rfl rfl ?_
  obtain ⟨p21, i22, e23, c24, H⟩ := zob_e H
  refine zA_gf3 rfl rfl e23 c24 ?_
  refine zA_aldn rfl rfl rfl ?_
  obtain ⟨p25, i26, e27, c28, H⟩ := zob_e H
  refine zA_gf0 rfl rfl (Or.inl rfl) e27 c28 ?_
  obtain ⟨p29, i30, j31, v36, e32, c33, c34, e35, e37, H⟩ := zra_e H
  refine zA_aal rfl rfl e32 c33 c34 e35 e37 ?_
  refine zA_astn2 rfl rfl rfl (zset1 (L' := [some (zrv x0), some (zrv x1), some (zrv v36), none, none]) (zcat_rv _) rfl (zpcV rfl (zcat_rv _))) ?_
  refine zA_push rfl rfl zkk7 ?_
  refine zA_istn2 rfl rfl rfl (zset1 (L' := [some (zrv x0), some (zrv x1), some (zrv v36), some (zI (0 : Int32)), none]) rfl rfl (zpcV rfl (zcat_rv _))) ?_
  exact zA_tr (L := [none, some (zrv x1), some (zrv v36), some (zI (0 : Int32)), none]) rfl rfl (zmS58_8 zN0 _ _ _ _ _ _ H)
theorem zmE58 (x0 : zq) (x1 : zq) : zpad (zPr.2.1 58).1 (zil [zrv x0, zrv x1]) = [some (zrv x0), some (zrv x1), none, none, none] := by
  simp only [zil_A, zil_I, zil_F, zil_D, zil_N]
  rfl
-- 11: ReleaseHouse$Release.comeTo(II)V
def zm11 (x0 : zq) (x1 : Int32) (x2 : Int32) (h : zH) : zRs Unit :=
  zob 5 x0 fun p21 i22 =>
  zlet (zsi h p21 i22 3 x1) fun h25 =>
  zlet (zsi h25 p21 i22 4 x2) fun h27 =>
  zlet (zsi h27 p21 i22 8 (0 : Int32)) fun h29 =>
  some (.inl (), h29)
theorem zmS11 {x0 : zq} {x1 : Int32} {x2 : Int32} {h : zH} {r : Unit ⊕ Nat} {h' : zH} (H : zm11 x0 x1 x2 h = some (r, h')) : zAt 11 0 [some (zrv x0), some (zI x1), some (zI x2)] [] h (zoU r) h' := by
  unfold zm11 at H
  refine zA_aldn rfl rfl rfl ?_
  refine zA_ldn rfl rfl rfl ?_
  obtain ⟨p21, i22, e23, c24, H⟩ := zob_e H
  obtain ⟨h25, e26, H⟩ := zlet_e H
  refine zA_pf0 rfl rfl e23 c24 e26 ?_
  refine zA_aldn rfl rfl rfl ?_
  refine zA_ldn rfl rfl rfl ?_
  obtain ⟨h27, e28, H⟩ := zlet_e H
  refine zA_pf0 rfl rfl e23 c24 e28 ?_
  refine zA_aldn rfl rfl rfl ?_
  refine zA_push rfl rfl zkk7 ?_
  obtain ⟨h29, e30, H⟩ := zlet_e H
  refine zA_pf1 rfl rfl e23 c24 (by decide) e30 ?_
  cases H
  exact zA_ret rfl rfl
theorem zmE11 (x0 : zq) (x1 : Int32) (x2 : Int32) : zpad (zPr.2.1 11).1 (zil [zrv x0, zI x1, zI x2]) = [some (zrv x0), some (zI x1), some (zI x2)] := by
  simp only [zil_A, zil_I, zil_F, zil_D, zil_N]
  rfl
def zm59_40 (k10 : zq → zq → Int32 → zH → zRs Unit) (x0 : zq) (x1 : zq) (x3 : Int32) (h : zH) : zRs Unit :=
  zlet (x3 + (1 : Int32)) fun x21 =>
  k10 x0 x1 x21 h
theorem zmS59_40 {k10 : zq → zq → Int32 → zH → zRs Unit} (hk10 : ∀ (x0 : zq) (x1 : zq) (x3 : Int32) (h : zH) (r : Unit ⊕ Nat) (h' : zH), k10 x0 x1 x3 h = some (r, h') → zAt 59 10 [some (zrv x0), some (zrv x1), none, some (zI x3), none] [] h (zoU r) h') : ∀ (x0 : zq) (x1 : zq) (x3 : Int32) (h : zH) (r : Unit ⊕ Nat) (h' : zH), zm59_40 k10 x0 x1 x3 h = some (r, h') → zAt 59 40 [some (zrv x0), some (zrv x1), none, some (zI x3), none] [] h (zoU r) h' := by
  intro x0 x1 x3 h r h' H
  unfold zm59_40 at H
  obtain ⟨x21, e22, H⟩ := zlet_e H
  refine zA_inc rfl rfl rfl (e22.trans (congrArg (_ + ·) zkk8)) (zset1 (L' := [some (zrv x0), some (zrv x1), none, some (zI x21), none]) rfl rfl (zpcN rfl)) ?_
  refine zA_go rfl rfl ?_
  exact zA_tr (L := [some (zrv x0), some (zrv x1), none, some (zI x21), none]) rfl rfl (hk10 _ _ _ _ _ _ H)
def zm59_10 : Nat → zq → zq → Int32 → zH → zRs Unit
  | 0, _, _, _, _ => none
  | n + 1, x0, x1, x3, h =>
    zob 11 x0 fun p21 i22 =>
    zlz (zr h p21 i22 2) h fun v30 =>
    if v30 ≤ x3 then
      some (.inl (), h)
    else
      zlg (zr h p21 i22 2) x3 h fun v39 =>
      zob 5 v39 fun p41 i42 =>
      if (zi h p41 i42 2) = (1 : Int32) then
        zob 0 (zr h p41 i42 0) fun p46 i47 =>
        zob 5 x1 fun p50 i51 =>
        zob 0 (zr h p50 i51 0) fun p54 i55 =>
        if (zi h p46 i47 1) = (zi h p54 i55 1) then
          zlet (zsi h p41 i42 2 (0 : Int32)) fun h59 =>
          zb (zm11 v39 (0 : Int32) (zi h59 p21 i22 11) h59) fun _ h61 =>
          zm59_40 (zm59_10 n) x0 x1 x3 h61
        else
          zm59_40 (zm59_10 n) x0 x1 x3 h
      else
        zm59_40 (zm59_10 n) x0 x1 x3 h
theorem zmS59_10 : ∀ (n : Nat) (x0 : zq) (x1 : zq) (x3 : Int32) (h : zH) (r : Unit ⊕ Nat) (h' : zH), zm59_10 n x0 x1 x3 h = some (r, h') → zAt 59 10 [some (zrv x0), some (zrv x1), none, some (zI x3), none] [] h (zoU r) h' := by
  intro n
  induction n with
  | zero => intro x0 x1 x3 h r h' H; cases H
  | succ n ih =>
    intro x0 x1 x3 h r h' H
    unfold zm59_10 at H
    refine zA_ldn rfl rfl rfl ?_
    refine zA_aldn rfl rfl rfl ?_
    obtain ⟨p21, i22, e23, c24, H⟩ := zob_e H
    refine zA_gf3 rfl rfl e23 c24 ?_
    obtain ⟨p25, i26, v30, e27, c28, c29, e31, H⟩ := zlz_e H
    refine zA_l2 rfl rfl rfl e27 c28 c29 e31 ?_
    rcases zite_e H with ⟨c32, H⟩ | ⟨c32, H⟩
    · refine zA_brT (c := v30 ≤ x3) rfl rfl rfl c32 ?_
      refine zA_tr (L := [none, none, none, none, none]) rfl rfl ?_
      cases H
      exact zA_ret rfl rfl
    · refine zA_brF (c := v30 ≤ x3) rfl rfl rfl c32 ?_
      refine zA_aldn rfl rfl rfl ?_
      refine zA_gf3 rfl rfl e23 c24 ?_
      refine zA_ldn rfl rfl rfl ?_
      obtain ⟨p33, i34, v39, e35, c36, c37, c38, e40, H⟩ := zlg_e H
      refine zA_l3 rfl rfl rfl e35 c36 c37 c38 e40 ?_
      obtain ⟨p41, i42, e43, c44, H⟩ := zob_e H
      refine zA_cast rfl rfl e43 c44 ?_
      refine zA_ast2 rfl rfl rfl (zset1 (L' := [some (zrv x0), some (zrv x1), none, some (zI x3), some (zrv v39)]) (zcat_rv _) rfl (zpcV rfl rfl)) ?_
      refine zA_ald rfl rfl rfl ?_
      refine zA_gf0 rfl rfl (Or.inl rfl) e43 c44 ?_
      refine zA_push rfl rfl zkk5 ?_
      rcases zite_e H with ⟨c45, H⟩ | ⟨c45, H⟩
      · refine zA_brF' (c := (zi h p41 i42 2) = (1 : Int32)) rfl rfl rfl c45 ?_
        refine zA_ald rfl rfl rfl ?_
        refine zA_gf3 rfl rfl e43 c44 ?_
        obtain ⟨p46, i47, e48, c49, H⟩ := zob_e H
        refine zA_gf0 rfl rfl (Or.inl rfl) e48 c49 ?_
        refine zA_aldn rfl rfl rfl ?_
        obtain ⟨p50, i51, e52, c53, H⟩ := zob_e H
        refine zA_gf3 rfl rfl e52 c53 ?_
        obtain ⟨p54, i55, e56, c57, H⟩ := zob_e H
        refine zA_gf0 rfl rfl (Or.inl rfl) e56 c57 ?_
        rcases zite_e H with ⟨c58, H⟩ | ⟨c58, H⟩
        · refine zA_brF' (c := (zi h p46 i47 1) = (zi h p54 i55 1)) rfl rfl rfl c58 ?_
          refine zA_ald rfl rfl rfl ?_
          refine zA_push rfl rfl zkk7 ?_
          obtain ⟨h59, e60, H⟩ := zlet_e H
          refine zA_pf0 rfl rfl e43 c44 e60 ?_
          refine zA_ald rfl rfl rfl ?_
          refine zA_push rfl rfl zkk7 ?_
          refine zA_aldn rfl rfl rfl ?_
          refine zA_gf0 rfl rfl (Or.inl rfl) e23 c24 ?_
          rcases zb_e H with ⟨u62, h61, C, H⟩ | ⟨E, h61, C, H⟩
          · refine zA_callU (as := [zrv v39, zI (0 : Int32), zI (zi h59 p21 i22 11)]) (st' := []) rfl rfl rfl (zrcv_Q e43 c44) rfl (zmE11 _ _ _) rfl (zmS11 C) ?_
            exact zA_tr (L := [some (zrv x0), some (zrv x1), none, some (zI x3), none]) rfl rfl (zmS59_40 ih _ _ _ _ _ _ H)
          · cases H
            exact zA_callX (as := [zrv v39, zI (0 : Int32), zI (zi h59 p21 i22 11)]) (st' := []) rfl rfl (zrcv_Q e43 c44) rfl (zmE11 _ _ _) rfl rfl rfl (zmS11 C)
        · refine zA_brT' (c := (zi h p46 i47 1) = (zi h p54 i55 1)) rfl rfl rfl c58 ?_
          exact zA_tr (L := [some (zrv x0), some (zrv x1), none, some (zI x3), none]) rfl rfl (zmS59_40 ih _ _ _ _ _ _ H)
      · refine zA_brT' (c := (zi h p41 i42 2) = (1 : Int32)) rfl rfl rfl c45 ?_
        exact zA_tr (L := [some (zrv x0), some (zrv x1), none, some (zI x3), none]) rfl rfl (zmS59_40 ih _ _ _ _ _ _ H)
-- 59: ReleaseHouse.bringToEnd(LReleaseHouse$Release;I)V
def zm59 (x0 : zq) (x1 : zq) (x2 : Int32) (h : zH) : zRs Unit :=
  zob 5 x1 fun p21 i22 =>
  zlet (zsi h p21 i22 2 x2) fun h25 =>
  zob 0 (zr h25 p21 i22 0) fun p27 i28 =>
  if (zi h25 p27 i28 8) = 0 then
    some (.inl (), h25)
  else
    zm59_10 zN0 x0 x1 (0 : Int32) h25
theorem zmS59 {x0 : zq} {x1 : zq} {x2 : Int32} {h : zH} {r : Unit ⊕ Nat} {h' : zH} (H : zm59 x0 x1 x2 h = some (r, h')) : zAt 59 0 [some (zrv x0), some (zrv x1), some (zI x2), none, none] [] h (zoU r) h' := by
  unfold zm59 at H
  refine zA_aldn rfl rfl rfl ?_
  refine zA_ldn rfl rfl rfl ?_
  obtain ⟨p21, i22, e23, c24, H⟩ := zob_e H
  obtain ⟨h25, e26, H⟩ := zlet_e H
  refine zA_pf0 rfl rfl e23 c24 e26 ?_
  refine zA_aldn rfl rfl rfl ?_
  refine zA_gf3 rfl rfl e23 c24 ?_
  obtain ⟨p27, i28, e29, c30, H⟩ := zob_e H
  refine zA_gf0 rfl rfl (Or.inr rfl) e29 c30 ?_
  rcases zite_e H with ⟨c31, H⟩ | ⟨c31, H⟩
  · refine zA_brF' (c := (zi h25 p27 i28 8) = 0) rfl rfl rfl c31 ?_
    cases H
    exact zA_ret rfl rfl
  · refine zA_brT' (c := (zi h25 p27 i28 8) = 0) rfl rfl rfl c31 ?_
    refine zA_tr (L := [some (zrv x0), some (zrv x1), none, none, none]) rfl rfl ?_
    refine zA_push rfl rfl zkk7 ?_
    refine zA_istn2 rfl rfl rfl (zset1 (L' := [some (zrv x0), some (zrv x1), none, some (zI (0 : Int32)), none]) rfl rfl (zpcN rfl)) ?_
    exact zA_tr (L := [some (zrv x0), some (zrv x1), none, some (zI (0 : Int32)), none]) rfl rfl (zmS59_10 zN0 _ _ _ _ _ _ H)
theorem zmE59 (x0 : zq) (x1 : zq) (x2 : Int32) : zpad (zPr.2.1 59).1 (zil [zrv x0, zrv x1, zI x2]) = [some (zrv x0), some (zrv x1), some (zI x2), none, none] := by
  simp only [zil_A, zil_I, zil_F, zil_D, zil_N]
  rfl
/-- a reference, or none, is written to a place of an array of references -/
def zaw {α : Type} (q w : zq) (x : Int32) (h : zH) (f : Nat → Nat → Nat → Option α) : Option α := match w with
  | none => zar 5 q x h f
  | some (k2, i2) => zas q (some (k2, i2)) x h fun k i _ _ j => f k i j
theorem zaw_e {α : Type} {q w : zq} {x : Int32} {h : zH} {f : Nat → Nat → Nat → Option α} {r : α} (H : zaw q w x h f = some r) : ∃ k i j, q = some (k, i) ∧ ((w = none ∧ (ztg k == 5) = true) ∨ ∃ k2 i2, w = some (k2, i2) ∧ (ztg k == 5 && ztg k2 == 0 && zkc k == zkc k2) = true) ∧ ¬ (x < 0 ∨ zln h k i ≤ j) ∧ j = x.toNatClampNeg ∧ f k i j = some r := by
  cases w with
  | none =>
    obtain ⟨k, i, j, e1, e2, e3, e4, H⟩ := zar_e (t := 5) (q := q) (x := x) (h := h) (f := f) H
    exact ⟨k, i, j, e1, Or.inl ⟨rfl, e2⟩, e3, e4, H⟩
  | some w =>
    obtain ⟨k2', i2'⟩ := w
    obtain ⟨k, i, k2, i2, j, e1, e2, e3, e4, e5, H⟩ := zas_e (q := q) (w := some (k2', i2')) (x := x) (h := h) H
    exact ⟨k, i, j, e1, Or.inr ⟨k2, i2, e2, e3⟩, e4, e5, H⟩
theorem zA_aaw {mi pc : Nat} {L : zLs} {st : List zV} {h h1 h' : zH} {o : zO} {b : Nat} {ks : List Bool} {a : List Nat} {q w : zq} {k i : Nat} {x : Int32} (hf : zfetch mi pc = some ((.aastore, b), (6 :: a, ks))) (hL : ztr ks L = L) (e : q = some (k, i)) (hc : (w = none ∧ (ztg k == 5) = true) ∨ ∃ k2 i2, w = some (k2, i2) ∧ (ztg k == 5 && ztg k2 == 0 && zkc k == zkc k2) = true) {j : Nat} (hx : ¬ (x < 0 ∨ zln h k i ≤ j)) (hj : j = x.toNatClampNeg) (hh : h1 = zsr h k i j w) (H : zAt mi (pc + 1) L st h1 o h') : zAt mi pc L (zrv w :: zI x :: zrv q :: st) h o h' := by
  rcases hc with ⟨rfl, hc⟩ | ⟨k2, i2, e2, hc⟩
  · exact zA_aasN hf hL e hc hx hj hh H
  · exact zA_aas hf hL e e2 hc hx hj (by rw [hh, e2]) H
def zm79_26 (x1 : zq) (x2 : Int32) (x3 : Int32) (x4 : zq) (x5 : zq) (h : zH) : zRs Unit :=
  if x3 ≤ 0 then
    zob 5 x1 fun p22 i23 =>
    zar 2 (zr h p22 i23 9) x2 h fun p26 i27 j28 =>
    zlet (zsi h p26 i27 j28 (1 : Int32)) fun h33 =>
    zob 9 x5 fun p35 i36 =>
    zaw (zr h33 p22 i23 10) (zr h33 p35 i36 0) x2 h33 fun p39 i40 j41 =>
    zlet (zsr h33 p39 i40 j41 (zr h33 p35 i36 0)) fun h46 =>
    zb (zm29 x5 x4 (none : zq) (0 : Int32) h46) fun _ h51 =>
    some (.inl (), h51)
  else
    zob 9 x5 fun p53 i54 =>
    zb (zm29 x5 (zr h p53 i54 0) x4 x3 h) fun _ h57 =>
    some (.inl (), h57)
theorem zmS79_26 : ∀ (x1 : zq) (x2 : Int32) (x3 : Int32) (x4 : zq) (x5 : zq) (h : zH) (r : Unit ⊕ Nat) (h' : zH), zm79_26 x1 x2 x3 x4 x5 h = some (r, h') → zAt 79 26 [none, some (zrv x1), some (zI x2), some (zI x3), some (zrv x4), some (zrv x5), none] [] h (zoU r) h' := by
  intro x1 x2 x3 x4 x5 h r h' H
  unfold zm79_26 at H
  refine zA_ldn rfl rfl rfl ?_
  rcases zite_e H with ⟨c21, H⟩ | ⟨c21, H⟩
  · refine zA_brT (c := x3 ≤ 0) rfl rfl rfl c21 ?_
    refine zA_tr (L := [none, some (zrv x1), some (zI x2), none, some (zrv x4), some (zrv x5), none]) rfl rfl ?_
    refine zA_aldn rfl rfl rfl ?_
    obtain ⟨p22, i23, e24, c25, H⟩ := zob_e H
    refine zA_gf3 rfl rfl e24 c25 ?_
    refine zA_ldn rfl rfl rfl ?_
    refine zA_push rfl rfl zkk5 ?_
    obtain ⟨p26, i27, j28, e29, c30, c31, e32, H⟩ := zar_e H
    obtain ⟨h33, e34, H⟩ := zlet_e H
    refine zA_bas rfl rfl e29 c30 c31 e32 (by decide) e34 ?_
    refine zA_aldn rfl rfl rfl ?_
    refine zA_gf3 rfl rfl e24 c25 ?_
    refine zA_ldn rfl rfl rfl ?_
    refine zA_ald rfl rfl rfl ?_
    obtain ⟨p35, i36, e37, c38, H⟩ := zob_e H
    refine zA_gf3 rfl rfl e37 c38 ?_
    obtain ⟨p39, i40, j41, e42, c43, c44, e45, H⟩ := zaw_e H
    obtain ⟨h46, e47, H⟩ := zlet_e H
    refine zA_aaw rfl rfl e42 c43 c44 e45 e47 ?_
    refine zA_ald rfl rfl rfl ?_
    refine zA_ald rfl rfl rfl ?_
    refine zA_push rfl rfl zkk22 ?_
    refine zA_push rfl rfl zkk7 ?_
    rcases zb_e H with ⟨u52, h51, C, H⟩ | ⟨E, h51, C, H⟩
    · refine zA_callU (as := [zrv x5, zrv x4, zrv (none : zq), zI (0 : Int32)]) (st' := []) rfl rfl rfl (zrcv_Q e37 c38) rfl (zmE29 _ _ _ _) rfl (zmS29 C) ?_
      refine zA_tr (L := [none, none, none, none, none, none, none]) rfl rfl ?_
      cases H
      exact zA_ret rfl rfl
    · cases H
      exact zA_callX (as := [zrv x5, zrv x4, zrv (none : zq), zI (0 : Int32)]) (st' := []) rfl rfl (zrcv_Q e37 c38) rfl (zmE29 _ _ _ _) rfl rfl rfl (zmS29 C)
  · refine zA_brF (c := x3 ≤ 0) rfl rfl rfl c21 ?_
    refine zA_ald rfl rfl rfl ?_
    refine zA_ald rfl rfl rfl ?_
    obtain ⟨p53, i54, e55, c56, H⟩ := zob_e H
    refine zA_gf3 rfl rfl e55 c56 ?_
    refine zA_ald rfl rfl rfl ?_
    refine zA_ldn rfl rfl rfl ?_
    rcases zb_e H with ⟨u58, h57, C, H⟩ | ⟨E, h57, C, H⟩
    · refine zA_callU (as := [zrv x5, zrv (zr h p53 i54 0), zrv x4, zI x3]) (st' := []) rfl rfl rfl (zrcv_Q e55 c56) rfl (zmE29 _ _ _ _) rfl (zmS29 C) ?_
      refine zA_go rfl rfl ?_
      refine zA_tr (L := [none, none, none, none, none, none, none]) rfl rfl ?_
      cases H
      exact zA_ret rfl rfl
    · cases H
      exact zA_callX (as := [zrv x5, zrv (zr h p53 i54 0), zrv x4, zI x3]) (st' := []) rfl rfl (zrcv_Q e55 c56) rfl (zmE29 _ _ _ _) rfl rfl rfl (zmS29 C)
-- 79: ReleaseHouse.put(LReleaseHouse$Release;II)V
def zm79 (x0 : zq) (x1 : zq) (x2 : Int32) (x3 : Int32) (h : zH) : zRs Unit :=
  zob 5 x1 fun p21 i22 =>
  zlet (zr h p21 i22 0) fun x25 =>
  zob 11 x0 fun p27 i28 =>
  zob 0 x25 fun p31 i32 =>
  zra (zr h p27 i28 6) (zi h p31 i32 1) h fun v42 =>
  zob 8 v42 fun p44 i45 =>
  zra (zr h p44 i45 0) x2 h fun v55 =>
  zb (zm66 x0 x25 v55 h) fun x58 h57 =>
  if x58 = none then
    zm79_26 x1 x2 x3 x25 v55 h57
  else
    zob 5 x58 fun p60 i61 =>
    zlet (zsi h57 p60 i61 2 (1 : Int32)) fun h64 =>
    zb (zm58 x0 (zr h64 p60 i61 0) h64) fun _ h66 =>
    zm79_26 x1 x2 x3 x25 v55 h66
theorem zmS79 {x0 : zq} {x1 : zq} {x2 : Int32} {x3 : Int32} {h : zH} {r : Unit ⊕ Nat} {h' : zH} (H : zm79 x0 x1 x2 x3 h = some (r, h')) : zAt 79 0 [some (zrv x0), some (zrv x1), some (zI x2), some (zI x3), none, none, none] [] h (zoU r) h' := by
  unfold zm79 at H
  refine zA_aldn rfl rfl rfl ?_
  obtain ⟨p21, i22, e23, c24, H⟩ := zob_e H
  refine zA_gf3 rfl rfl e23 c24 ?_
  obtain ⟨x25, e26, H⟩ := zlet_e H
  refine zA_ast2 rfl rfl e26 (zset1 (L' := [some (zrv x0), some (zrv x1), some (zI x2), some (zI x3), some (zrv x25), none, none]) (zcat_rv _) rfl (zpcV rfl rfl)) ?_
  refine zA_aldn rfl rfl rfl ?_
  obtain ⟨p27, i28, e29, c30, H⟩ := zob_e H
  refine zA_gf3 rfl rfl e29 c30 ?_
  refine zA_ald rfl rfl rfl ?_
  obtain ⟨p31, i32, e33, c34, H⟩ := zob_e H
  refine zA_gf0 rfl rfl (Or.inl rfl) e33 c34 ?_
  obtain ⟨p35, i36, j37, v42, e38, c39, c40, e41, e43, H⟩ := zra_e H
  refine zA_aal rfl rfl e38 c39 c40 e41 e43 ?_
  obtain ⟨p44, i45, e46, c47, H⟩ := zob_e H
  refine zA_gf3 rfl rfl e46 c47 ?_
  refine zA_ldn rfl rfl rfl ?_
  obtain ⟨p48, i49, j50, v55, e51, c52, c53, e54, e56, H⟩ := zra_e H
  refine zA_aal rfl rfl e51 c52 c53 e54 e56 ?_
  refine zA_ast2 rfl rfl rfl (zset1 (L' := [some (zrv x0), some (zrv x1), some (zI x2), some (zI x3), some (zrv x25), some (zrv v55), none]) (zcat_rv _) rfl (zpcV rfl (zcat_rv _))) ?_
  refine zA_aldn rfl rfl rfl ?_
  refine zA_ald rfl rfl rfl ?_
  refine zA_ald rfl rfl rfl ?_
  rcases zb_e H with ⟨x58, h57, C, H⟩ | ⟨E, h57, C, H⟩
  · refine zA_callV (as := [zrv x0, zrv x25, zrv v55]) (st' := []) rfl rfl rfl (zrcv_Q e29 c30) rfl (zmE66 _ _ _) rfl (zmS66 C) ?_
    refine zA_ast2 rfl rfl rfl (zset1 (L' := [some (zrv x0), some (zrv x1), some (zI x2), some (zI x3), some (zrv x25), some (zrv v55), some (zrv x58)]) (zcat_rv _) rfl (zpcV rfl (zcat_rv _))) ?_
    refine zA_ald rfl rfl rfl ?_
    rcases zite_e H with ⟨c59, H⟩ | ⟨c59, H⟩
    · refine zA_brT (c := x58 = none) rfl rfl zIf_null c59 ?_
      exact zA_tr (L := [none, some (zrv x1), some (zI x2), some (zI x3), some (zrv x25), some (zrv v55), none]) rfl rfl (zmS79_26 _ _ _ _ _ _ _ _ H)
    · refine zA_brF (c := x58 = none) rfl rfl zIf_null c59 ?_
      refine zA_ald rfl rfl rfl ?_
      refine zA_push rfl rfl zkk5 ?_
      obtain ⟨p60, i61, e62, c63, H⟩ := zob_e H
      obtain ⟨h64, e65, H⟩ := zlet_e H
      refine zA_pf0 rfl rfl e62 c63 e65 ?_
      refine zA_aldn rfl rfl rfl ?_
      refine zA_ald rfl rfl rfl ?_
      refine zA_gf3 rfl rfl e62 c63 ?_
      rcases zb_e H with ⟨u67, h66, C, H⟩ | ⟨E, h66, C, H⟩
      · refine zA_callU (as := [zrv x0, zrv (zr h64 p60 i61 0)]) (st' := []) rfl rfl rfl (zrcv_Q e29 c30) rfl (zmE58 _ _) rfl (zmS58 C) ?_
        exact zA_tr (L := [none, some (zrv x1), some (zI x2), some (zI x3), some (zrv x25), some (zrv v55), none]) rfl rfl (zmS79_26 _ _ _ _ _ _ _ _ H)
      · cases H
        exact zA_callX (as := [zrv x0, zrv (zr h64 p60 i61 0)]) (st' := []) rfl rfl (zrcv_Q e29 c30) rfl (zmE58 _ _) rfl rfl rfl (zmS58 C)
  · cases H
    exact zA_callX (as := [zrv x0, zrv x25, zrv v55]) (st' := []) rfl rfl (zrcv_Q e29 c30) rfl (zmE66 _ _ _) rfl rfl rfl (zmS66 C)
theorem zmE79 (x0 : zq) (x1 : zq) (x2 : Int32) (x3 : Int32) : zpad (zPr.2.1 79).1 (zil [zrv x0, zrv x1, zI x2, zI x3]) = [some (zrv x0), some (zrv x1), some (zI x2), some (zI x3), none, none, none] := by
  simp only [zil_A, zil_I, zil_F, zil_D, zil_N]
  rfl
def zm57_32 (x0 : zq) (x4 : zq) (x5 : zq) (x6 : zq) (s0 : zq) (h : zH) : zRs Int32 :=
  if x6 = none then
    some (.inl (0 : Int32), h)
  else
    zob 11 x0 fun p22 i23 =>
    zb (zm46 x0 x6 s0 h) fun x27 h26 =>
    if x27 = 0 then
      some (.inl (0 : Int32), h26)
    else
      zob 8 x4 fun p29 i30 =>
      zb (zm25 x4 x6 h26) fun x34 h33 =>
      if x34 = 0 then
        some (.inl (0 : Int32), h33)
      else
        zob 9 x5 fun p36 i37 =>
        zb (zm29 x5 x6 (zr h33 p36 i37 1) (zi h33 p36 i37 2) h33) fun _ h40 =>
        some (.inl (1 : Int32), h40)
theorem zmS57_32 : ∀ (x0 : zq) (x4 : zq) (x5 : zq) (x6 : zq) (s0 : zq) (h : zH) (r : Int32 ⊕ Nat) (h' : zH), zm57_32 x0 x4 x5 x6 s0 h = some (r, h') → zAt 57 32 [some (zrv x0), none, none, none, some (zrv x4), some (zrv x5), some (zrv x6), none] [zrv s0] h (zoI r) h' := by
  intro x0 x4 x5 x6 s0 h r h' H
  unfold zm57_32 at H
  refine zA_ast2 rfl rfl rfl (zset1 (L' := [some (zrv x0), none, none, none, some (zrv x4), some (zrv x5), some (zrv x6), some (zrv s0)]) (zcat_rv _) rfl (zpcV rfl (zcat_rv _))) ?_
  refine zA_ald rfl rfl rfl ?_
  rcases zite_e H with ⟨c21, H⟩ | ⟨c21, H⟩
  · refine zA_brT (c := x6 = none) rfl rfl zIf_null c21 ?_
    refine zA_tr (L := [none, none, none, none, none, none, none, none]) rfl rfl ?_
    refine zA_push rfl rfl zkk7 ?_
    cases H
    exact zA_ret rfl (zret_Z (by decide))
  · refine zA_brF (c := x6 = none) rfl rfl zIf_null c21 ?_
    refine zA_aldn rfl rfl rfl ?_
    refine zA_ald rfl rfl rfl ?_
    refine zA_ald rfl rfl rfl ?_
    obtain ⟨p22, i23, e24, c25, H⟩ := zob_e H
    rcases zb_e H with ⟨x27, h26, C, H⟩ | ⟨E, h26, C, H⟩
    · refine zA_callV (as := [zrv x0, zrv x6, zrv s0]) (st' := []) rfl rfl rfl (zrcv_Q e24 c25) rfl (zmE46 _ _ _) rfl (zmS46 C) ?_
      rcases zite_e H with ⟨c28, H⟩ | ⟨c28, H⟩
      · refine zA_brT (c := x27 = 0) rfl rfl rfl c28 ?_
        refine zA_tr (L := [none, none, none, none, none, none, none, none]) rfl rfl ?_
        refine zA_push rfl rfl zkk7 ?_
        cases H
        exact zA_ret rfl (zret_Z (by decide))
      · refine zA_brF (c := x27 = 0) rfl rfl rfl c28 ?_
        refine zA_ald rfl rfl rfl ?_
        refine zA_ald rfl rfl rfl ?_
        obtain ⟨p29, i30, e31, c32, H⟩ := zob_e H
        rcases zb_e H with ⟨x34, h33, C, H⟩ | ⟨E, h33, C, H⟩
        · refine zA_callV (as := [zrv x4, zrv x6]) (st' := []) rfl rfl rfl (zrcv_Q e31 c32) rfl (zmE25 _ _) rfl (zmS25 C) ?_
          rcases zite_e H with ⟨c35, H⟩ | ⟨c35, H⟩
          · refine zA_brF' (c := x34 = 0) rfl rfl rfl c35 ?_
            refine zA_tr (L := [none, none, none, none, none, none, none, none]) rfl rfl ?_
            refine zA_push rfl rfl zkk7 ?_
            cases H
            exact zA_ret rfl (zret_Z (by decide))
          · refine zA_brT' (c := x34 = 0) rfl rfl rfl c35 ?_
            refine zA_tr (L := [none, none, none, none, none, some (zrv x5), some (zrv x6), none]) rfl rfl ?_
            refine zA_ald rfl rfl rfl ?_
            refine zA_ald rfl rfl rfl ?_
            refine zA_ald rfl rfl rfl ?_
            obtain ⟨p36, i37, e38, c39, H⟩ := zob_e H
            refine zA_gf3 rfl rfl e38 c39 ?_
            refine zA_ald rfl rfl rfl ?_
            refine zA_gf0 rfl rfl (Or.inl rfl) e38 c39 ?_
            rcases zb_e H with ⟨u41, h40, C, H⟩ | ⟨E, h40, C, H⟩
            · refine zA_callU (as := [zrv x5, zrv x6, zrv (zr h33 p36 i37 1), zI (zi h33 p36 i37 2)]) (st' := []) rfl rfl rfl (zrcv_Q e38 c39) rfl (zmE29 _ _ _ _) rfl (zmS29 C) ?_
              refine zA_push rfl rfl zkk5 ?_
              cases H
              exact zA_ret rfl (zret_Z (by decide))
            · cases H
              exact zA_callX (as := [zrv x5, zrv x6, zrv (zr h33 p36 i37 1), zI (zi h33 p36 i37 2)]) (st' := []) rfl rfl (zrcv_Q e38 c39) rfl (zmE29 _ _ _ _) rfl rfl rfl (zmS29 C)
        · cases H
          exact zA_callX (as := [zrv x4, zrv x6]) (st' := []) rfl rfl (zrcv_Q e31 c32) rfl (zmE25 _ _) rfl rfl rfl (zmS25 C)
    · cases H
      exact zA_callX (as := [zrv x0, zrv x6, zrv s0]) (st' := []) rfl rfl (zrcv_Q e24 c25) rfl (zmE46 _ _ _) rfl rfl rfl (zmS46 C)
-- 57: ReleaseHouse.goesBack(LReleaseHouse$Release;I)Z
def zm57 (x0 : zq) (x1 : zq) (x2 : Int32) (h : zH) : zRs Int32 :=
  zob 5 x1 fun p21 i22 =>
  zlet (zr h p21 i22 0) fun x25 =>
  zob 11 x0 fun p27 i28 =>
  zob 0 x25 fun p31 i32 =>
  zra (zr h p27 i28 6) (zi h p31 i32 1) h fun v42 =>
  zob 8 v42 fun p44 i45 =>
  zra (zr h p44 i45 0) x2 h fun v55 =>
  zob 9 v55 fun p57 i58 =>
  if (zr h p57 i58 0) = x25 then
    zra (zr h p21 i22 10) x2 h fun v69 =>
    if (zi h p31 i32 10) = (1 : Int32) then
      zm57_32 x0 v42 v55 v69 x25 h
    else
      zm57_32 x0 v42 v55 v69 (none : zq) h
  else
    some (.inl (1 : Int32), h)
theorem zmS57 {x0 : zq} {x1 : zq} {x2 : Int32} {h : zH} {r : Int32 ⊕ Nat} {h' : zH} (H : zm57 x0 x1 x2 h = some (r, h')) : zAt 57 0 [some (zrv x0), some (zrv x1), some (zI x2), none, none, none, none, none] [] h (zoI r) h' := by
  unfold zm57 at H
  refine zA_aldn rfl rfl rfl ?_
  obtain ⟨p21, i22, e23, c24, H⟩ := zob_e H
  refine zA_gf3 rfl rfl e23 c24 ?_
  obtain ⟨x25, e26, H⟩ := zlet_e H
  refine zA_astn2 rfl rfl e26 (zset1 (L' := [some (zrv x0), some (zrv x1), some (zI x2), some (zrv x25), none, none, none, none]) (zcat_rv _) rfl (zpcV rfl rfl)) ?_
  refine zA_aldn rfl rfl rfl ?_
  obtain ⟨p27, i28, e29, c30, H⟩ := zob_e H
  refine zA_gf3 rfl rfl e29 c30 ?_
  refine zA_aldn rfl rfl rfl ?_
  obtain ⟨p31, i32, e33, c34, H⟩ := zob_e H
  refine zA_gf0 rfl rfl (Or.inl rfl) e33 c34 ?_
  obtain ⟨p35, i36, j37, v42, e38, c39, c40, e41, e43, H⟩ := zra_e H
  refine zA_aal rfl rfl e38 c39 c40 e41 e43 ?_
  refine zA_ast2 rfl rfl rfl (zset1 (L' := [some (zrv x0), some (zrv x1), some (zI x2), some (zrv x25), some (zrv v42), none, none, none]) (zcat_rv _) rfl (zpcV rfl (zcat_rv _))) ?_
  refine zA_ald rfl rfl rfl ?_
  obtain ⟨p44, i45, e46, c47, H⟩ := zob_e H
  refine zA_gf3 rfl rfl e46 c47 ?_
  refine zA_ldn rfl rfl rfl ?_
  obtain ⟨p48, i49, j50, v55, e51, c52, c53, e54, e56, H⟩ := zra_e H
  refine zA_aal rfl rfl e51 c52 c53 e54 e56 ?_
  refine zA_ast2 rfl rfl rfl (zset1 (L' := [some (zrv x0), some (zrv x1), some (zI x2), some (zrv x25), some (zrv v42), some (zrv v55), none, none]) (zcat_rv _) rfl (zpcV rfl (zcat_rv _))) ?_
  refine zA_ald rfl rfl rfl ?_
  obtain ⟨p57, i58, e59, c60, H⟩ := zob_e H
  refine zA_gf3 rfl rfl e59 c60 ?_
  refine zA_aldn rfl rfl rfl ?_
  rcases zite_e H with ⟨c61, H⟩ | ⟨c61, H⟩
  · refine zA_brT (c := (zr h p57 i58 0) = x25) rfl rfl zIf_aeq c61 ?_
    refine zA_aldn rfl rfl rfl ?_
    refine zA_gf3 rfl rfl e23 c24 ?_
    refine zA_ldn rfl rfl rfl ?_
    obtain ⟨p62, i63, j64, v69, e65, c66, c67, e68, e70, H⟩ := zra_e H
    refine zA_aal rfl rfl e65 c66 c67 e68 e70 ?_
    refine zA_ast2 rfl rfl rfl (zset1 (L' := [some (zrv x0), some (zrv x1), some (zI x2), some (zrv x25), some (zrv v42), some (zrv v55), some (zrv v69), none]) (zcat_rv _) rfl (zpcV rfl (zcat_rv _))) ?_
    refine zA_aldn rfl rfl rfl ?_
    refine zA_gf0 rfl rfl (Or.inl rfl) e33 c34 ?_
    refine zA_push rfl rfl zkk5 ?_
    rcases zite_e H with ⟨c71, H⟩ | ⟨c71, H⟩
    · refine zA_brF' (c := (zi h p31 i32 10) = (1 : Int32)) rfl rfl rfl c71 ?_
      refine zA_aldn rfl rfl rfl ?_
      refine zA_go rfl rfl ?_
      exact zA_tr (L := [some (zrv x0), none, none, none, some (zrv v42), some (zrv v55), some (zrv v69), none]) rfl rfl (zmS57_32 _ _ _ _ _ _ _ _ H)
    · refine zA_brT' (c := (zi h p31 i32 10) = (1 : Int32)) rfl rfl rfl c71 ?_
      refine zA_tr (L := [some (zrv x0), none, none, none, some (zrv v42), some (zrv v55), some (zrv v69), none]) rfl rfl ?_
      refine zA_push rfl rfl zkk22 ?_
      exact zA_tr (L := [some (zrv x0), none, none, none, some (zrv v42), some (zrv v55), some (zrv v69), none]) rfl rfl (zmS57_32 _ _ _ _ _ _ _ _ H)
  · refine zA_brF (c := (zr h p57 i58 0) = x25) rfl rfl zIf_aeq c61 ?_
    refine zA_push rfl rfl zkk5 ?_
    cases H
    exact zA_ret rfl (zret_Z (by decide))
theorem zmE57 (x0 : zq) (x1 : zq) (x2 : Int32) : zpad (zPr.2.1 57).1 (zil [zrv x0, zrv x1, zI x2]) = [some (zrv x0), some (zrv x1), some (zI x2), none, none, none, none, none] := by
  simp only [zil_A, zil_I, zil_F, zil_D, zil_N]
  rfl
def zm56_22 (k8 : zq → zq → Int32 → Int32 → zH → zRs Int32) (x0 : zq) (x1 : zq) (x2 : Int32) (x3 : Int32) (h : zH) : zRs Int32 :=
  zlet (x3 + (1 : Int32)) fun x21 =>
  k8 x0 x1 x2 x21 h
theorem zmS56_22 {k8 : zq → zq → Int32 → Int32 → zH → zRs Int32} (hk8 : ∀ (x0 : zq) (x1 : zq) (x2 : Int32) (x3 : Int32) (h : zH) (r : Int32 ⊕ Nat) (h' : zH), k8 x0 x1 x2 x3 h = some (r, h') → zAt 56 8 [some (zrv x0), some (zrv x1), some (zI x2), some (zI x3)] [] h (zoI r) h') : ∀ (x0 : zq) (x1 : zq) (x2 : Int32) (x3 : Int32) (h : zH) (r : Int32 ⊕ Nat) (h' : zH), zm56_22 k8 x0 x1 x2 x3 h = some (r, h') → zAt 56 22 [some (zrv x0), some (zrv x1), some (zI x2), some (zI x3)] [] h (zoI r) h' := by
  intro x0 x1 x2 x3 h r h' H
  unfold zm56_22 at H
  obtain ⟨x21, e22, H⟩ := zlet_e H
  refine zA_inc rfl rfl rfl (e22.trans (congrArg (_ + ·) zkk8)) (zset1 (L' := [some (zrv x0), some (zrv x1), some (zI x2), some (zI x21)]) rfl rfl (zpcV rfl rfl)) ?_
  refine zA_go rfl rfl ?_
  exact zA_tr (L := [some (zrv x0), some (zrv x1), some (zI x2), some (zI x21)]) rfl rfl (hk8 _ _ _ _ _ _ _ H)
def zm56_8 (k24 : zq → zq → Int32 → zH → zRs Int32) : Nat → zq → zq → Int32 → Int32 → zH → zRs Int32
  | 0, _, _, _, _, _ => none
  | n + 1, x0, x1, x2, x3, h =>
    if (3 : Int32) ≤ x3 then
      k24 x0 x1 x2 h
    else
      zob 5 x1 fun p22 i23 =>
      zrb (zr h p22 i23 9) x3 h fun v33 =>
      if v33 = 0 then
        zm56_22 (zm56_8 k24 n) x0 x1 x2 x3 h
      else
        zob 11 x0 fun p36 i37 =>
        zb (zm57 x0 x1 x3 h) fun x41 h40 =>
        if x41 = 0 then
          zlet (x2 + (1 : Int32)) fun x43 =>
          zm56_22 (zm56_8 k24 n) x0 x1 x43 x3 h40
        else
          zm56_22 (zm56_8 k24 n) x0 x1 x2 x3 h40
theorem zmS56_8 {k24 : zq → zq → Int32 → zH → zRs Int32} (hk24 : ∀ (x0 : zq) (x1 : zq) (x2 : Int32) (h : zH) (r : Int32 ⊕ Nat) (h' : zH), k24 x0 x1 x2 h = some (r, h') → zAt 56 24 [some (zrv x0), some (zrv x1), some (zI x2), none] [] h (zoI r) h') : ∀ (n : Nat) (x0 : zq) (x1 : zq) (x2 : Int32) (x3 : Int32) (h : zH) (r : Int32 ⊕ Nat) (h' : zH), zm56_8 k24 n x0 x1 x2 x3 h = some (r, h') → zAt 56 8 [some (zrv x0), some (zrv x1), some (zI x2), some (zI x3)] [] h (zoI r) h' := by
  intro n
  induction n with
  | zero => intro x0 x1 x2 x3 h r h' H; cases H
  | succ n ih =>
    intro x0 x1 x2 x3 h r h' H
    unfold zm56_8 at H
    refine zA_ldn rfl rfl rfl ?_
    refine zA_push rfl rfl zkk3 ?_
    rcases zite_e H with ⟨c21, H⟩ | ⟨c21, H⟩
    · refine zA_brT (c := (3 : Int32) ≤ x3) rfl rfl rfl c21 ?_
      exact zA_tr (L := [some (zrv x0), some (zrv x1), some (zI x2), none]) rfl rfl (hk24 _ _ _ _ _ _ H)
    · refine zA_brF (c := (3 : Int32) ≤ x3) rfl rfl rfl c21 ?_
      refine zA_aldn rfl rfl rfl ?_
      obtain ⟨p22, i23, e24, c25, H⟩ := zob_e H
      refine zA_gf3 rfl rfl e24 c25 ?_
      refine zA_ldn rfl rfl rfl ?_
      obtain ⟨p26, i27, j28, v33, e29, c30, c31, e32, e34, H⟩ := zrb_e H
      refine zA_bal rfl rfl e29 c30 c31 e32 e34 ?_
      rcases zite_e H with ⟨c35, H⟩ | ⟨c35, H⟩
      · refine zA_brT (c := v33 = 0) rfl rfl rfl c35 ?_
        exact zA_tr (L := [some (zrv x0), some (zrv x1), some (zI x2), some (zI x3)]) rfl rfl (zmS56_22 ih _ _ _ _ _ _ _ H)
      · refine zA_brF (c := v33 = 0) rfl rfl rfl c35 ?_
        refine zA_aldn rfl rfl rfl ?_
        refine zA_aldn rfl rfl rfl ?_
        refine zA_ldn rfl rfl rfl ?_
        obtain ⟨p36, i37, e38, c39, H⟩ := zob_e H
        rcases zb_e H with ⟨x41, h40, C, H⟩ | ⟨E, h40, C, H⟩
        · refine zA_callV (as := [zrv x0, zrv x1, zI x3]) (st' := []) rfl rfl rfl (zrcv_Q e38 c39) rfl (zmE57 _ _ _) rfl (zmS57 C) ?_
          rcases zite_e H with ⟨c42, H⟩ | ⟨c42, H⟩
          · refine zA_brF' (c := x41 = 0) rfl rfl rfl c42 ?_
            obtain ⟨x43, e44, H⟩ := zlet_e H
            refine zA_inc rfl rfl rfl (e44.trans (congrArg (_ + ·) zkk8)) (zset1 (L' := [some (zrv x0), some (zrv x1), some (zI x43), some (zI x3)]) rfl rfl (zpcV rfl (zcat_rv _))) ?_
            exact zA_tr (L := [some (zrv x0), some (zrv x1), some (zI x43), some (zI x3)]) rfl rfl (zmS56_22 ih _ _ _ _ _ _ _ H)
          · refine zA_brT' (c := x41 = 0) rfl rfl rfl c42 ?_
            exact zA_tr (L := [some (zrv x0), some (zrv x1), some (zI x2), some (zI x3)]) rfl rfl (zmS56_22 ih _ _ _ _ _ _ _ H)
        · cases H
          exact zA_callX (as := [zrv x0, zrv x1, zI x3]) (st' := []) rfl rfl (zrcv_Q e38 c39) rfl (zmE57 _ _ _) rfl rfl rfl (zmS57 C)
def zm56_24 (x0 : zq) (x1 : zq) (x2 : Int32) (h : zH) : zRs Int32 :=
  zob 11 x0 fun p21 i22 =>
  zb (zm59 x0 x1 (3 : Int32) h) fun _ h25 =>
  some (.inl x2, h25)
theorem zmS56_24 : ∀ (x0 : zq) (x1 : zq) (x2 : Int32) (h : zH) (r : Int32 ⊕ Nat) (h' : zH), zm56_24 x0 x1 x2 h = some (r, h') → zAt 56 24 [some (zrv x0), some (zrv x1), some (zI x2), none] [] h (zoI r) h' := by
  intro x0 x1 x2 h r h' H
  unfold zm56_24 at H
  refine zA_aldn rfl rfl rfl ?_
  refine zA_aldn rfl rfl rfl ?_
  refine zA_push rfl rfl zkk3 ?_
  obtain ⟨p21, i22, e23, c24, H⟩ := zob_e H
  rcases zb_e H with ⟨u26, h25, C, H⟩ | ⟨E, h25, C, H⟩
  · refine zA_callU (as := [zrv x0, zrv x1, zI (3 : Int32)]) (st' := []) rfl rfl rfl (zrcv_Q e23 c24) rfl (zmE59 _ _ _) rfl (zmS59 C) ?_
    refine zA_ldn rfl rfl rfl ?_
    cases H
    exact zA_ret rfl rfl
  · cases H
    exact zA_callX (as := [zrv x0, zrv x1, zI (3 : Int32)]) (st' := []) rfl rfl (zrcv_Q e23 c24) rfl (zmE59 _ _ _) rfl rfl rfl (zmS59 C)
-- 56: ReleaseHouse.bringToStop(LReleaseHouse$Release;)I
def zm56 (x0 : zq) (x1 : zq) (h : zH) : zRs Int32 :=
  zob 5 x1 fun p21 i22 =>
  zob 11 x0 fun p25 i26 =>
  zb (zm58 x0 (zr h p21 i22 0) h) fun _ h29 =>
  zm56_8 (zm56_24) zN0 x0 x1 (0 : Int32) (0 : Int32) h29
theorem zmS56 {x0 : zq} {x1 : zq} {h : zH} {r : Int32 ⊕ Nat} {h' : zH} (H : zm56 x0 x1 h = some (r, h')) : zAt 56 0 [some (zrv x0), some (zrv x1), none, none] [] h (zoI r) h' := by
  unfold zm56 at H
  refine zA_aldn rfl rfl rfl ?_
  refine zA_aldn rfl rfl rfl ?_
  obtain ⟨p21, i22, e23, c24, H⟩ := zob_e H
  refine zA_gf3 rfl rfl e23 c24 ?_
  obtain ⟨p25, i26, e27, c28, H⟩ := zob_e H
  rcases zb_e H with ⟨u30, h29, C, H⟩ | ⟨E, h29, C, H⟩
  · refine zA_callU (as := [zrv x0, zrv (zr h p21 i22 0)]) (st' := []) rfl rfl rfl (zrcv_Q e27 c28) rfl (zmE58 _ _) rfl (zmS58 C) ?_
    refine zA_push rfl rfl zkk7 ?_
    refine zA_istn2 rfl rfl rfl (zset1 (L' := [some (zrv x0), some (zrv x1), some (zI (0 : Int32)), none]) rfl rfl (zpcV rfl (zcat_rv _))) ?_
    refine zA_push rfl rfl zkk7 ?_
    refine zA_istn2 rfl rfl rfl (zset1 (L' := [some (zrv x0), some (zrv x1), some (zI (0 : Int32)), some (zI (0 : Int32))]) rfl rfl (zpcV rfl rfl)) ?_
    exact zA_tr (L := [some (zrv x0), some (zrv x1), some (zI (0 : Int32)), some (zI (0 : Int32))]) rfl rfl (zmS56_8 (zmS56_24) zN0 _ _ _ _ _ _ _ H)
  · cases H
    exact zA_callX (as := [zrv x0, zrv (zr h p21 i22 0)]) (st' := []) rfl rfl (zrcv_Q e27 c28) rfl (zmE58 _ _) rfl rfl rfl (zmS58 C)
theorem zmE56 (x0 : zq) (x1 : zq) : zpad (zPr.2.1 56).1 (zil [zrv x0, zrv x1]) = [some (zrv x0), some (zrv x1), none, none] := by
  simp only [zil_A, zil_I, zil_F, zil_D, zil_N]
  rfl
-- 78: ReleaseHouse.doEffect(LReleaseHouse$Release;)V
def zm78 (x0 : zq) (x1 : zq) (h : zH) : zRs Unit :=
  zob 11 x0 fun p21 i22 =>
  zob 5 x1 fun p25 i26 =>
  zob 0 (zr h p25 i26 0) fun p29 i30 =>
  zra (zr h p21 i22 6) (zi h p29 i30 1) h fun v40 =>
  zob 8 v40 fun p42 i43 =>
  zlet (zr h p42 i43 0) fun x46 =>
  zb (zm13 x1 h) fun x49 h48 =>
  zb (zm12 x1 h48) fun x51 h50 =>
  if x51.toInt < 0 ∨ 4 < x51.toInt then
    some (.inl (), h50)
  else if x51 = (0 : Int32) then
    zra x46 x49 h50 fun v120 =>
    zob 9 v120 fun p122 i123 =>
    zb (zm28 v120 (zr h50 p25 i26 0) h50) fun x127 h126 =>
    if x127 = 0 then
      zra x46 x49 h126 fun v136 =>
      zob 9 v136 fun p138 i139 =>
      if (zr h126 p138 i139 0) = (zr h126 p25 i26 0) then
        some (.inl (), h126)
      else
        zb (zm14 x1 h126) fun x144 h143 =>
        zb (zm79 x0 x1 x49 x144 h143) fun _ h145 =>
        some (.inl (), h145)
    else
      zb (zm58 x0 (zr h126 p25 i26 0) h126) fun _ h147 =>
      zb (zm59 x0 x1 (4 : Int32) h147) fun _ h148 =>
      some (.inl (), h148)
  else if x51 = (1 : Int32) then
    some (.inl (), h50)
  else if x51 = (2 : Int32) then
    zra x46 x49 h50 fun v100 =>
    zob 9 v100 fun p102 i103 =>
    zb (zm34 v100 h50) fun x107 h106 =>
    if x107 = (2 : Int32) then
      zb (zm56 x0 x1 h106) fun x110 h109 =>
      some (.inl (), h109)
    else
      some (.inl (), h106)
  else if x51 = (3 : Int32) then
    some (.inl (), h50)
  else if x51 = (4 : Int32) then
    zra x46 x49 h50 fun v60 =>
    zob 9 v60 fun p62 i63 =>
    zb (zm28 v60 (zr h50 p25 i26 0) h50) fun x67 h66 =>
    if x67 = 0 then
      zra x46 x49 h66 fun v76 =>
      zob 9 v76 fun p78 i79 =>
      if (zr h66 p78 i79 0) = (zr h66 p25 i26 0) then
        some (.inl (), h66)
      else
        zb (zm14 x1 h66) fun x84 h83 =>
        zb (zm79 x0 x1 x49 x84 h83) fun _ h85 =>
        some (.inl (), h85)
    else
      zb (zm58 x0 (zr h66 p25 i26 0) h66) fun _ h87 =>
      zb (zm59 x0 x1 (4 : Int32) h87) fun _ h88 =>
      some (.inl (), h88)
  else none
theorem zmS78 {x0 : zq} {x1 : zq} {h : zH} {r : Unit ⊕ Nat} {h' : zH} (H : zm78 x0 x1 h = some (r, h')) : zAt 78 0 [some (zrv x0), some (zrv x1), none, none] [] h (zoU r) h' := by
  unfold zm78 at H
  refine zA_aldn rfl rfl rfl ?_
  obtain ⟨p21, i22, e23, c24, H⟩ := zob_e H
  refine zA_gf3 rfl rfl e23 c24 ?_
  refine zA_aldn rfl rfl rfl ?_
  obtain ⟨p25, i26, e27, c28, H⟩ := zob_e H
  refine zA_gf3 rfl rfl e27 c28 ?_
  obtain ⟨p29, i30, e31, c32, H⟩ := zob_e H
  refine zA_gf0 rfl rfl (Or.inl rfl) e31 c32 ?_
  obtain ⟨p33, i34, j35, v40, e36, c37, c38, e39, e41, H⟩ := zra_e H
  refine zA_aal rfl rfl e36 c37 c38 e39 e41 ?_
  obtain ⟨p42, i43, e44, c45, H⟩ := zob_e H
  refine zA_gf3 rfl rfl e44 c45 ?_
  obtain ⟨x46, e47, H⟩ := zlet_e H
  refine zA_astn2 rfl rfl e47 (zset1 (L' := [some (zrv x0), some (zrv x1), some (zrv x46), none]) (zcat_rv _) rfl (zpcV rfl (zcat_rv _))) ?_
  refine zA_aldn rfl rfl rfl ?_
  rcases zb_e H with ⟨x49, h48, C, H⟩ | ⟨E, h48, C, H⟩
  · refine zA_callV (as := [zrv x1]) (st' := []) rfl rfl rfl (zrcv_Q e27 c28) rfl (zmE13 _) rfl (zmS13 C) ?_
    refine zA_istn2 rfl rfl rfl (zset1 (L' := [some (zrv x0), some (zrv x1), some (zrv x46), some (zI x49)]) rfl rfl (zpcV rfl (zcat_rv _))) ?_
    refine zA_aldn rfl rfl rfl ?_
    rcases zb_e H with ⟨x51, h50, C, H⟩ | ⟨E, h50, C, H⟩
    · refine zA_callV (as := [zrv x1]) (st' := []) rfl rfl rfl (zrcv_Q e27 c28) rfl (zmE12 _) rfl (zmS12 C) ?_
      rcases zite_e H with ⟨c52, H⟩ | ⟨c52, H⟩
      · refine zA_swD rfl rfl c52 ?_
        refine zA_tr (L := [none, none, none, none]) rfl rfl ?_
        cases H
        exact zA_ret rfl rfl
      · rcases zite_e H with ⟨c151, H⟩ | ⟨c151, H⟩
        · refine zA_swT (j := 0) (t := 14) rfl rfl c52 (by rw [c151]; decide) rfl ?_
          refine zA_aldn rfl rfl rfl ?_
          refine zA_ldn rfl rfl rfl ?_
          obtain ⟨p113, i114, j115, v120, e116, c117, c118, e119, e121, H⟩ := zra_e H
          refine zA_aal rfl rfl e116 c117 c118 e119 e121 ?_
          refine zA_aldn rfl rfl rfl ?_
          refine zA_gf3 rfl rfl e27 c28 ?_
          obtain ⟨p122, i123, e124, c125, H⟩ := zob_e H
          rcases zb_e H with ⟨x127, h126, C, H⟩ | ⟨E, h126, C, H⟩
          · refine zA_callV (as := [zrv v120, zrv (zr h50 p25 i26 0)]) (st' := []) rfl rfl rfl (zrcv_Q e124 c125) rfl (zmE28 _ _) rfl (zmS28 C) ?_
            rcases zite_e H with ⟨c128, H⟩ | ⟨c128, H⟩
            · refine zA_brT (c := x127 = 0) rfl rfl rfl c128 ?_
              refine zA_aldn rfl rfl rfl ?_
              refine zA_ldn rfl rfl rfl ?_
              obtain ⟨p129, i130, j131, v136, e132, c133, c134, e135, e137, H⟩ := zra_e H
              refine zA_aal rfl rfl e132 c133 c134 e135 e137 ?_
              obtain ⟨p138, i139, e140, c141, H⟩ := zob_e H
              refine zA_gf3 rfl rfl e140 c141 ?_
              refine zA_aldn rfl rfl rfl ?_
              refine zA_gf3 rfl rfl e27 c28 ?_
              rcases zite_e H with ⟨c142, H⟩ | ⟨c142, H⟩
              · refine zA_brT (c := (zr h126 p138 i139 0) = (zr h126 p25 i26 0)) rfl rfl zIf_aeq c142 ?_
                refine zA_tr (L := [none, none, none, none]) rfl rfl ?_
                cases H
                exact zA_ret rfl rfl
              · refine zA_brF (c := (zr h126 p138 i139 0) = (zr h126 p25 i26 0)) rfl rfl zIf_aeq c142 ?_
                refine zA_aldn rfl rfl rfl ?_
                refine zA_aldn rfl rfl rfl ?_
                refine zA_ldn rfl rfl rfl ?_
                refine zA_aldn rfl rfl rfl ?_
                rcases zb_e H with ⟨x144, h143, C, H⟩ | ⟨E, h143, C, H⟩
                · refine zA_callV (as := [zrv x1]) (st' := [zI x49, zrv x1, zrv x0]) rfl rfl rfl (zrcv_Q e27 c28) rfl (zmE14 _) rfl (zmS14 C) ?_
                  rcases zb_e H with ⟨u146, h145, C, H⟩ | ⟨E, h145, C, H⟩
                  · refine zA_callU (as := [zrv x0, zrv x1, zI x49, zI x144]) (st' := []) rfl rfl rfl (zrcv_Q e23 c24) rfl (zmE79 _ _ _ _) rfl (zmS79 C) ?_
                    refine zA_go rfl rfl ?_
                    refine zA_tr (L := [none, none, none, none]) rfl rfl ?_
                    cases H
                    exact zA_ret rfl rfl
                  · cases H
                    exact zA_callX (as := [zrv x0, zrv x1, zI x49, zI x144]) (st' := []) rfl rfl (zrcv_Q e23 c24) rfl (zmE79 _ _ _ _) rfl rfl rfl (zmS79 C)
                · cases H
                  exact zA_callX (as := [zrv x1]) (st' := [zI x49, zrv x1, zrv x0]) rfl rfl (zrcv_Q e27 c28) rfl (zmE14 _) rfl rfl rfl (zmS14 C)
            · refine zA_brF (c := x127 = 0) rfl rfl rfl c128 ?_
              refine zA_aldn rfl rfl rfl ?_
              refine zA_aldn rfl rfl rfl ?_
              refine zA_gf3 rfl rfl e27 c28 ?_
              rcases zb_e H with ⟨u150, h147, C, H⟩ | ⟨E, h147, C, H⟩
              · refine zA_callU (as := [zrv x0, zrv (zr h126 p25 i26 0)]) (st' := []) rfl rfl rfl (zrcv_Q e23 c24) rfl (zmE58 _ _) rfl (zmS58 C) ?_
                refine zA_aldn rfl rfl rfl ?_
                refine zA_aldn rfl rfl rfl ?_
                refine zA_push rfl rfl zkk9 ?_
                rcases zb_e H with ⟨u149, h148, C, H⟩ | ⟨E, h148, C, H⟩
                · refine zA_callU (as := [zrv x0, zrv x1, zI (4 : Int32)]) (st' := []) rfl rfl rfl (zrcv_Q e23 c24) rfl (zmE59 _ _ _) rfl (zmS59 C) ?_
                  refine zA_go rfl rfl ?_
                  refine zA_tr (L := [none, none, none, none]) rfl rfl ?_
                  cases H
                  exact zA_ret rfl rfl
                · cases H
                  exact zA_callX (as := [zrv x0, zrv x1, zI (4 : Int32)]) (st' := []) rfl rfl (zrcv_Q e23 c24) rfl (zmE59 _ _ _) rfl rfl rfl (zmS59 C)
              · cases H
                exact zA_callX (as := [zrv x0, zrv (zr h126 p25 i26 0)]) (st' := []) rfl rfl (zrcv_Q e23 c24) rfl (zmE58 _ _) rfl rfl rfl (zmS58 C)
          · cases H
            exact zA_callX (as := [zrv v120, zrv (zr h50 p25 i26 0)]) (st' := []) rfl rfl (zrcv_Q e124 c125) rfl (zmE28 _ _) rfl rfl rfl (zmS28 C)
        · rcases zite_e H with ⟨c112, H⟩ | ⟨c112, H⟩
          · refine zA_swT (j := 1) (t := 55) rfl rfl c52 (by rw [c112]; decide) rfl ?_
            refine zA_tr (L := [none, none, none, none]) rfl rfl ?_
            cases H
            exact zA_ret rfl rfl
          · rcases zite_e H with ⟨c111, H⟩ | ⟨c111, H⟩
            · refine zA_swT (j := 2) (t := 44) rfl rfl c52 (by rw [c111]; decide) rfl ?_
              refine zA_aldn rfl rfl rfl ?_
              refine zA_ldn rfl rfl rfl ?_
              obtain ⟨p93, i94, j95, v100, e96, c97, c98, e99, e101, H⟩ := zra_e H
              refine zA_aal rfl rfl e96 c97 c98 e99 e101 ?_
              obtain ⟨p102, i103, e104, c105, H⟩ := zob_e H
              rcases zb_e H with ⟨x107, h106, C, H⟩ | ⟨E, h106, C, H⟩
              · refine zA_callV (as := [zrv v100]) (st' := []) rfl rfl rfl (zrcv_Q e104 c105) rfl (zmE34 _) rfl (zmS34 C) ?_
                refine zA_push rfl rfl zkk15 ?_
                rcases zite_e H with ⟨c108, H⟩ | ⟨c108, H⟩
                · refine zA_brF' (c := x107 = (2 : Int32)) rfl rfl rfl c108 ?_
                  refine zA_aldn rfl rfl rfl ?_
                  refine zA_aldn rfl rfl rfl ?_
                  rcases zb_e H with ⟨x110, h109, C, H⟩ | ⟨E, h109, C, H⟩
                  · refine zA_callV (as := [zrv x0, zrv x1]) (st' := []) rfl rfl rfl (zrcv_Q e23 c24) rfl (zmE56 _ _) rfl (zmS56 C) ?_
                    refine zA_pop rfl rfl rfl ?_
                    refine zA_go rfl rfl ?_
                    refine zA_tr (L := [none, none, none, none]) rfl rfl ?_
                    cases H
                    exact zA_ret rfl rfl
                  · cases H
                    exact zA_callX (as := [zrv x0, zrv x1]) (st' := []) rfl rfl (zrcv_Q e23 c24) rfl (zmE56 _ _) rfl rfl rfl (zmS56 C)
                · refine zA_brT' (c := x107 = (2 : Int32)) rfl rfl rfl c108 ?_
                  refine zA_tr (L := [none, none, none, none]) rfl rfl ?_
                  cases H
                  exact zA_ret rfl rfl
              · cases H
                exact zA_callX (as := [zrv v100]) (st' := []) rfl rfl (zrcv_Q e104 c105) rfl (zmE34 _) rfl rfl rfl (zmS34 C)
            · rcases zite_e H with ⟨c92, H⟩ | ⟨c92, H⟩
              · refine zA_swT (j := 3) (t := 55) rfl rfl c52 (by rw [c92]; decide) rfl ?_
                refine zA_tr (L := [none, none, none, none]) rfl rfl ?_
                cases H
                exact zA_ret rfl rfl
              · rcases zite_e H with ⟨c91, H⟩ | ⟨c91, H⟩
                · refine zA_swT (j := 4) (t := 14) rfl rfl c52 (by rw [c91]; decide) rfl ?_
                  refine zA_aldn rfl rfl rfl ?_
                  refine zA_ldn rfl rfl rfl ?_
                  obtain ⟨p53, i54, j55, v60, e56, c57, c58, e59, e61, H⟩ := zra_e H
                  refine zA_aal rfl rfl e56 c57 c58 e59 e61 ?_
                  refine zA_aldn rfl rfl rfl ?_
                  refine zA_gf3 rfl rfl e27 c28 ?_
                  obtain ⟨p62, i63, e64, c65, H⟩ := zob_e H
                  rcases zb_e H with ⟨x67, h66, C, H⟩ | ⟨E, h66, C, H⟩
                  · refine zA_callV (as := [zrv v60, zrv (zr h50 p25 i26 0)]) (st' := []) rfl rfl rfl (zrcv_Q e64 c65) rfl (zmE28 _ _) rfl (zmS28 C) ?_
                    rcases zite_e H with ⟨c68, H⟩ | ⟨c68, H⟩
                    · refine zA_brT (c := x67 = 0) rfl rfl rfl c68 ?_
                      refine zA_aldn rfl rfl rfl ?_
                      refine zA_ldn rfl rfl rfl ?_
                      obtain ⟨p69, i70, j71, v76, e72, c73, c74, e75, e77, H⟩ := zra_e H
                      refine zA_aal rfl rfl e72 c73 c74 e75 e77 ?_
                      obtain ⟨p78, i79, e80, c81, H⟩ := zob_e H
                      refine zA_gf3 rfl rfl e80 c81 ?_
                      refine zA_aldn rfl rfl rfl ?_
                      refine zA_gf3 rfl rfl e27 c28 ?_
                      rcases zite_e H with ⟨c82, H⟩ | ⟨c82, H⟩
                      · refine zA_brT (c := (zr h66 p78 i79 0) = (zr h66 p25 i26 0)) rfl rfl zIf_aeq c82 ?_
                        refine zA_tr (L := [none, none, none, none]) rfl rfl ?_
                        cases H
                        exact zA_ret rfl rfl
                      · refine zA_brF (c := (zr h66 p78 i79 0) = (zr h66 p25 i26 0)) rfl rfl zIf_aeq c82 ?_
                        refine zA_aldn rfl rfl rfl ?_
                        refine zA_aldn rfl rfl rfl ?_
                        refine zA_ldn rfl rfl rfl ?_
                        refine zA_aldn rfl rfl rfl ?_
                        rcases zb_e H with ⟨x84, h83, C, H⟩ | ⟨E, h83, C, H⟩
                        · refine zA_callV (as := [zrv x1]) (st' := [zI x49, zrv x1, zrv x0]) rfl rfl rfl (zrcv_Q e27 c28) rfl (zmE14 _) rfl (zmS14 C) ?_
                          rcases zb_e H with ⟨u86, h85, C, H⟩ | ⟨E, h85, C, H⟩
                          · refine zA_callU (as := [zrv x0, zrv x1, zI x49, zI x84]) (st' := []) rfl rfl rfl (zrcv_Q e23 c24) rfl (zmE79 _ _ _ _) rfl (zmS79 C) ?_
                            refine zA_go rfl rfl ?_
                            refine zA_tr (L := [none, none, none, none]) rfl rfl ?_
                            cases H
                            exact zA_ret rfl rfl
                          · cases H
                            exact zA_callX (as := [zrv x0, zrv x1, zI x49, zI x84]) (st' := []) rfl rfl (zrcv_Q e23 c24) rfl (zmE79 _ _ _ _) rfl rfl rfl (zmS79 C)
                        · cases H
                          exact zA_callX (as := [zrv x1]) (st' := [zI x49, zrv x1, zrv x0]) rfl rfl (zrcv_Q e27 c28) rfl (zmE14 _) rfl rfl rfl (zmS14 C)
                    · refine zA_brF (c := x67 = 0) rfl rfl rfl c68 ?_
                      refine zA_aldn rfl rfl rfl ?_
                      refine zA_aldn rfl rfl rfl ?_
                      refine zA_gf3 rfl rfl e27 c28 ?_
                      rcases zb_e H with ⟨u90, h87, C, H⟩ | ⟨E, h87, C, H⟩
                      · refine zA_callU (as := [zrv x0, zrv (zr h66 p25 i26 0)]) (st' := []) rfl rfl rfl (zrcv_Q e23 c24) rfl (zmE58 _ _) rfl (zmS58 C) ?_
                        refine zA_aldn rfl rfl rfl ?_
                        refine zA_aldn rfl rfl rfl ?_
                        refine zA_push rfl rfl zkk9 ?_
                        rcases zb_e H with ⟨u89, h88, C, H⟩ | ⟨E, h88, C, H⟩
                        · refine zA_callU (as := [zrv x0, zrv x1, zI (4 : Int32)]) (st' := []) rfl rfl rfl (zrcv_Q e23 c24) rfl (zmE59 _ _ _) rfl (zmS59 C) ?_
                          refine zA_go rfl rfl ?_
                          refine zA_tr (L := [none, none, none, none]) rfl rfl ?_
                          cases H
                          exact zA_ret rfl rfl
                        · cases H
                          exact zA_callX (as := [zrv x0, zrv x1, zI (4 : Int32)]) (st' := []) rfl rfl (zrcv_Q e23 c24) rfl (zmE59 _ _ _) rfl rfl rfl (zmS59 C)
                      · cases H
                        exact zA_callX (as := [zrv x0, zrv (zr h66 p25 i26 0)]) (st' := []) rfl rfl (zrcv_Q e23 c24) rfl (zmE58 _ _) rfl rfl rfl (zmS58 C)
                  · cases H
                    exact zA_callX (as := [zrv v60, zrv (zr h50 p25 i26 0)]) (st' := []) rfl rfl (zrcv_Q e64 c65) rfl (zmE28 _ _) rfl rfl rfl (zmS28 C)
                · cases H
    · cases H
      exact zA_callX (as := [zrv x1]) (st' := []) rfl rfl (zrcv_Q e27 c28) rfl (zmE12 _) rfl rfl rfl (zmS12 C)
  · cases H
    exact zA_callX (as := [zrv x1]) (st' := []) rfl rfl (zrcv_Q e27 c28) rfl (zmE13 _) rfl rfl rfl (zmS13 C)
theorem zmE78 (x0 : zq) (x1 : zq) : zpad (zPr.2.1 78).1 (zil [zrv x0, zrv x1]) = [some (zrv x0), some (zrv x1), none, none] := by
  simp only [zil_A, zil_I, zil_F, zil_D, zil_N]
  rfl
def zm60_22 (k2 : zq → zq → Int32 → zH → zRs Unit) (x0 : zq) (x1 : zq) (x2 : Int32) (h : zH) : zRs Unit :=
  zlet (x2 + (1 : Int32)) fun x21 =>
  k2 x0 x1 x21 h
theorem zmS60_22 {k2 : zq → zq → Int32 → zH → zRs Unit} (hk2 : ∀ (x0 : zq) (x1 : zq) (x2 : Int32) (h : zH) (r : Unit ⊕ Nat) (h' : zH), k2 x0 x1 x2 h = some (r, h') → zAt 60 2 [some (zrv x0), some (zrv x1), some (zI x2), none] [] h (zoU r) h') : ∀ (x0 : zq) (x1 : zq) (x2 : Int32) (h : zH) (r : Unit ⊕ Nat) (h' : zH), zm60_22 k2 x0 x1 x2 h = some (r, h') → zAt 60 22 [some (zrv x0), some (zrv x1), some (zI x2), none] [] h (zoU r) h' := by
  intro x0 x1 x2 h r h' H
  unfold zm60_22 at H
  obtain ⟨x21, e22, H⟩ := zlet_e H
  refine zA_inc rfl rfl rfl (e22.trans (congrArg (_ + ·) zkk8)) (zset1 (L' := [some (zrv x0), some (zrv x1), some (zI x21), none]) rfl rfl (zpcV rfl (zcat_rv _))) ?_
  refine zA_go rfl rfl ?_
  exact zA_tr (L := [some (zrv x0), some (zrv x1), some (zI x21), none]) rfl rfl (hk2 _ _ _ _ _ _ H)
def zm60_2 : Nat → zq → zq → Int32 → zH → zRs Unit
  | 0, _, _, _, _ => none
  | n + 1, x0, x1, x2, h =>
    if (3 : Int32) ≤ x2 then
      some (.inl (), h)
    else
      zob 8 x1 fun p22 i23 =>
      zra (zr h p22 i23 0) x2 h fun v33 =>
      zob 9 v33 fun p35 i36 =>
      if (zi h p35 i36 3) = 0 then
        zm60_22 (zm60_2 n) x0 x1 x2 h
      else
        zob 11 x0 fun p40 i41 =>
        zlet (zsi h p40 i41 14 ((zi h p40 i41 14) + (1 : Int32))) fun h44 =>
        zlet (zsi h44 p35 i36 3 (0 : Int32)) fun h46 =>
        zm60_22 (zm60_2 n) x0 x1 x2 h46
theorem zmS60_2 : ∀ (n : Nat) (x0 : zq) (x1 : zq) (x2 : Int32) (h : zH) (r : Unit ⊕ Nat) (h' : zH), zm60_2 n x0 x1 x2 h = some (r, h') → zAt 60 2 [some (zrv x0), some (zrv x1), some (zI x2), none] [] h (zoU r) h' := by
  intro n
  induction n with
  | zero => intro x0 x1 x2 h r h' H; cases H
  | succ n ih =>
    intro x0 x1 x2 h r h' H
    unfold zm60_2 at H
    refine zA_ldn rfl rfl rfl ?_
    refine zA_push rfl rfl zkk3 ?_
    rcases zite_e H with ⟨c21, H⟩ | ⟨c21, H⟩
    · refine zA_brT (c := (3 : Int32) ≤ x2) rfl rfl rfl c21 ?_
      refine zA_tr (L := [none, none, none, none]) rfl rfl ?_
      cases H
      exact zA_ret rfl rfl
    · refine zA_brF (c := (3 : Int32) ≤ x2) rfl rfl rfl c21 ?_
      refine zA_aldn rfl rfl rfl ?_
      obtain ⟨p22, i23, e24, c25, H⟩ := zob_e H
      refine zA_gf3 rfl rfl e24 c25 ?_
      refine zA_ldn rfl rfl rfl ?_
      obtain ⟨p26, i27, j28, v33, e29, c30, c31, e32, e34, H⟩ := zra_e H
      refine zA_aal rfl rfl e29 c30 c31 e32 e34 ?_
      refine zA_astn2 rfl rfl rfl (zset1 (L' := [some (zrv x0), some (zrv x1), some (zI x2), some (zrv v33)]) (zcat_rv _) rfl (zpcV rfl rfl)) ?_
      refine zA_aldn rfl rfl rfl ?_
      obtain ⟨p35, i36, e37, c38, H⟩ := zob_e H
      refine zA_gf0 rfl rfl (Or.inr rfl) e37 c38 ?_
      rcases zite_e H with ⟨c39, H⟩ | ⟨c39, H⟩
      · refine zA_brT (c := (zi h p35 i36 3) = 0) rfl rfl rfl c39 ?_
        exact zA_tr (L := [some (zrv x0), some (zrv x1), some (zI x2), none]) rfl rfl (zmS60_22 ih _ _ _ _ _ _ H)
      · refine zA_brF (c := (zi h p35 i36 3) = 0) rfl rfl rfl c39 ?_
        refine zA_aldn rfl rfl rfl ?_
        refine zA_dup rfl rfl (zcat_rv _) ?_
        obtain ⟨p40, i41, e42, c43, H⟩ := zob_e H
        refine zA_gf0 rfl rfl (Or.inl rfl) e42 c43 ?_
        refine zA_push rfl rfl zkk5 ?_
        refine zA_st (st' := [zI ((zi h p40 i41 14) + (1 : Int32)), zrv x0]) rfl rfl rfl rfl ?_
        obtain ⟨h44, e45, H⟩ := zlet_e H
        refine zA_pf0 rfl rfl e42 c43 e45 ?_
        refine zA_aldn rfl rfl rfl ?_
        refine zA_push rfl rfl zkk7 ?_
        obtain ⟨h46, e47, H⟩ := zlet_e H
        refine zA_pf1 rfl rfl e37 c38 (by decide) e47 ?_
        exact zA_tr (L := [some (zrv x0), some (zrv x1), some (zI x2), none]) rfl rfl (zmS60_22 ih _ _ _ _ _ _ H)
-- 60: ReleaseHouse.countEffects(LReleaseHouse$Service;)V
def zm60 (x0 : zq) (x1 : zq) (h : zH) : zRs Unit :=
  zm60_2 zN0 x0 x1 (0 : Int32) h
theorem zmS60 {x0 : zq} {x1 : zq} {h : zH} {r : Unit ⊕ Nat} {h' : zH} (H : zm60 x0 x1 h = some (r, h')) : zAt 60 0 [some (zrv x0), some (zrv x1), none, none] [] h (zoU r) h' := by
  unfold zm60 at H
  refine zA_push rfl rfl zkk7 ?_
  refine zA_istn2 rfl rfl rfl (zset1 (L' := [some (zrv x0), some (zrv x1), some (zI (0 : Int32)), none]) rfl rfl (zpcV rfl (zcat_rv _))) ?_
  exact zA_tr (L := [some (zrv x0), some (zrv x1), some (zI (0 : Int32)), none]) rfl rfl (zmS60_2 zN0 _ _ _ _ _ _ H)
theorem zmE60 (x0 : zq) (x1 : zq) : zpad (zPr.2.1 60).1 (zil [zrv x0, zrv x1]) = [some (zrv x0), some (zrv x1), none, none] := by
  simp only [zil_A, zil_I, zil_F, zil_D, zil_N]
  rfl
-- 80: ReleaseHouse.noteStep(LReleaseHouse$Release;)V
def zm80 (x0 : zq) (x1 : zq) (h : zH) : zRs Unit :=
  zob 5 x1 fun p21 i22 =>
  zob 11 x0 fun p25 i26 =>
  zb (zm11 x1 ((zi h p21 i22 3) + (1 : Int32)) (zi h p25 i26 11) h) fun _ h29 =>
  zob 4 (zr h29 p21 i22 1) fun p30 i31 =>
  if (zi h29 p21 i22 3) < (zi h29 p30 i31 3) then
    some (.inl (), h29)
  else
    zb (zm59 x0 x1 (2 : Int32) h29) fun _ h35 =>
    some (.inl (), h35)
theorem zmS80 {x0 : zq} {x1 : zq} {h : zH} {r : Unit ⊕ Nat} {h' : zH} (H : zm80 x0 x1 h = some (r, h')) : zAt 80 0 [some (zrv x0), some (zrv x1)] [] h (zoU r) h' := by
  unfold zm80 at H
  refine zA_aldn rfl rfl rfl ?_
  refine zA_aldn rfl rfl rfl ?_
  obtain ⟨p21, i22, e23, c24, H⟩ := zob_e H
  refine zA_gf0 rfl rfl (Or.inl rfl) e23 c24 ?_
  refine zA_push rfl rfl zkk5 ?_
  refine zA_st (st' := [zI ((zi h p21 i22 3) + (1 : Int32)), zrv x1]) rfl rfl rfl rfl ?_
  refine zA_aldn rfl rfl rfl ?_
  obtain ⟨p25, i26, e27, c28, H⟩ := zob_e H
  refine zA_gf0 rfl rfl (Or.inl rfl) e27 c28 ?_
  rcases zb_e H with ⟨u37, h29, C, H⟩ | ⟨E, h29, C, H⟩
  · refine zA_callU (as := [zrv x1, zI ((zi h p21 i22 3) + (1 : Int32)), zI (zi h p25 i26 11)]) (st' := []) rfl rfl rfl (zrcv_Q e23 c24) rfl (zmE11 _ _ _) rfl (zmS11 C) ?_
    refine zA_aldn rfl rfl rfl ?_
    refine zA_gf0 rfl rfl (Or.inl rfl) e23 c24 ?_
    refine zA_aldn rfl rfl rfl ?_
    refine zA_gf3 rfl rfl e23 c24 ?_
    obtain ⟨p30, i31, e32, c33, H⟩ := zob_e H
    refine zA_gf0 rfl rfl (Or.inl rfl) e32 c33 ?_
    rcases zite_e H with ⟨c34, H⟩ | ⟨c34, H⟩
    · refine zA_brT (c := (zi h29 p21 i22 3) < (zi h29 p30 i31 3)) rfl rfl rfl c34 ?_
      refine zA_tr (L := [none, none]) rfl rfl ?_
      cases H
      exact zA_ret rfl rfl
    · refine zA_brF (c := (zi h29 p21 i22 3) < (zi h29 p30 i31 3)) rfl rfl rfl c34 ?_
      refine zA_aldn rfl rfl rfl ?_
      refine zA_aldn rfl rfl rfl ?_
      refine zA_push rfl rfl zkk15 ?_
      rcases zb_e H with ⟨u36, h35, C, H⟩ | ⟨E, h35, C, H⟩
      · refine zA_callU (as := [zrv x0, zrv x1, zI (2 : Int32)]) (st' := []) rfl rfl rfl (zrcv_Q e27 c28) rfl (zmE59 _ _ _) rfl (zmS59 C) ?_
        refine zA_tr (L := [none, none]) rfl rfl ?_
        cases H
        exact zA_ret rfl rfl
      · cases H
        exact zA_callX (as := [zrv x0, zrv x1, zI (2 : Int32)]) (st' := []) rfl rfl (zrcv_Q e27 c28) rfl (zmE59 _ _ _) rfl rfl rfl (zmS59 C)
  · cases H
    exact zA_callX (as := [zrv x1, zI ((zi h p21 i22 3) + (1 : Int32)), zI (zi h p25 i26 11)]) (st' := []) rfl rfl (zrcv_Q e23 c24) rfl (zmE11 _ _ _) rfl rfl rfl (zmS11 C)
theorem zmE80 (x0 : zq) (x1 : zq) : zpad (zPr.2.1 80).1 (zil [zrv x0, zrv x1]) = [some (zrv x0), some (zrv x1)] := by
  simp only [zil_A, zil_I, zil_F, zil_D, zil_N]
  rfl
-- 77: ReleaseHouse.goOn(LReleaseHouse$Release;)Z
def zm77 (x0 : zq) (x1 : zq) (h : zH) : zRs Int32 :=
  zob 11 x0 fun p21 i22 =>
  if (zi h p21 i22 12) = (1 : Int32) then
    zlet (zsi h p21 i22 13 (1 : Int32)) fun h26 =>
    some (.inl (0 : Int32), h26)
  else
    zb (zm78 x0 x1 h) fun _ h28 =>
    zob 5 x1 fun p29 i30 =>
    zob 0 (zr h28 p29 i30 0) fun p33 i34 =>
    zra (zr h28 p21 i22 6) (zi h28 p33 i34 1) h28 fun v44 =>
    zb (zm60 x0 v44 h28) fun _ h46 =>
    zb (zm10 x1 h46) fun x48 h47 =>
    if (zi h47 p21 i22 12) = (2 : Int32) then
      zlet (zsi h47 p21 i22 13 (1 : Int32)) fun h50 =>
      zif (x48 = 0 ∨ x48 = 1) <|
      some (.inl x48, h50)
    else
      if x48 = 0 then
        zb (zm80 x0 x1 h47) fun _ h54 =>
        some (.inl (1 : Int32), h54)
      else
        some (.inl (1 : Int32), h47)
theorem zmS77 {x0 : zq} {x1 : zq} {h : zH} {r : Int32 ⊕ Nat} {h' : zH} (H : zm77 x0 x1 h = some (r, h')) : zAt 77 0 [some (zrv x0), some (zrv x1), none] [] h (zoI r) h' := by
  unfold zm77 at H
  refine zA_aldn rfl rfl rfl ?_
  obtain ⟨p21, i22, e23, c24, H⟩ := zob_e H
  refine zA_gf0 rfl rfl (Or.inl rfl) e23 c24 ?_
  refine zA_push rfl rfl zkk5 ?_
  rcases zite_e H with ⟨c25, H⟩ | ⟨c25, H⟩
  · refine zA_brF' (c := (zi h p21 i22 12) = (1 : Int32)) rfl rfl rfl c25 ?_
    refine zA_aldn rfl rfl rfl ?_
    refine zA_push rfl rfl zkk5 ?_
    obtain ⟨h26, e27, H⟩ := zlet_e H
    refine zA_pf1 rfl rfl e23 c24 (by decide) e27 ?_
    refine zA_push rfl rfl zkk7 ?_
    cases H
    exact zA_ret rfl (zret_Z (by decide))
  · refine zA_brT' (c := (zi h p21 i22 12) = (1 : Int32)) rfl rfl rfl c25 ?_
    refine zA_aldn rfl rfl rfl ?_
    refine zA_aldn rfl rfl rfl ?_
    rcases zb_e H with ⟨u57, h28, C, H⟩ | ⟨E, h28, C, H⟩
    · refine zA_callU (as := [zrv x0, zrv x1]) (st' := []) rfl rfl rfl (zrcv_Q e23 c24) rfl (zmE78 _ _) rfl (zmS78 C) ?_
      refine zA_aldn rfl rfl rfl ?_
      refine zA_aldn rfl rfl rfl ?_
      refine zA_gf3 rfl rfl e23 c24 ?_
      refine zA_aldn rfl rfl rfl ?_
      obtain ⟨p29, i30, e31, c32, H⟩ := zob_e H
      refine zA_gf3 rfl rfl e31 c32 ?_
      obtain ⟨p33, i34, e35, c36, H⟩ := zob_e H
      refine zA_gf0 rfl rfl (Or.inl rfl) e35 c36 ?_
      obtain ⟨p37, i38, j39, v44, e40, c41, c42, e43, e45, H⟩ := zra_e H
      refine zA_aal rfl rfl e40 c41 c42 e43 e45 ?_
      rcases zb_e H with ⟨u56, h46, C, H⟩ | ⟨E, h46, C, H⟩
      · refine zA_callU (as := [zrv x0, zrv v44]) (st' := []) rfl rfl rfl (zrcv_Q e23 c24) rfl (zmE60 _ _) rfl (zmS60 C) ?_
        refine zA_aldn rfl rfl rfl ?_
        rcases zb_e H with ⟨x48, h47, C, H⟩ | ⟨E, h47, C, H⟩
        · refine zA_callV (as := [zrv x1]) (st' := []) rfl rfl rfl (zrcv_Q e31 c32) rfl (zmE10 _) rfl (zmS10 C) ?_
          refine zA_istn2 rfl rfl rfl (zset1 (L' := [some (zrv x0), some (zrv x1), some (zI x48)]) rfl rfl (zpcV rfl (zcat_rv _))) ?_
          refine zA_aldn rfl rfl rfl ?_
          refine zA_gf0 rfl rfl (Or.inl rfl) e23 c24 ?_
          refine zA_push rfl rfl zkk15 ?_
          rcases zite_e H with ⟨c49, H⟩ | ⟨c49, H⟩
          · refine zA_brF' (c := (zi h47 p21 i22 12) = (2 : Int32)) rfl rfl rfl c49 ?_
            refine zA_aldn rfl rfl rfl ?_
            refine zA_push rfl rfl zkk5 ?_
            obtain ⟨h50, e51, H⟩ := zlet_e H
            refine zA_pf1 rfl rfl e23 c24 (by decide) e51 ?_
            refine zA_ldn rfl rfl rfl ?_
            obtain ⟨c52, H⟩ := zif_e H
            cases H
            exact zA_ret rfl (zret_Z c52)
          · refine zA_brT' (c := (zi h47 p21 i22 12) = (2 : Int32)) rfl rfl rfl c49 ?_
            refine zA_ldn rfl rfl rfl ?_
            rcases zite_e H with ⟨c53, H⟩ | ⟨c53, H⟩
            · refine zA_brF' (c := x48 = 0) rfl rfl rfl c53 ?_
              refine zA_aldn rfl rfl rfl ?_
              refine zA_aldn rfl rfl rfl ?_
              rcases zb_e H with ⟨u55, h54, C, H⟩ | ⟨E, h54, C, H⟩
              · refine zA_callU (as := [zrv x0, zrv x1]) (st' := []) rfl rfl rfl (zrcv_Q e23 c24) rfl (zmE80 _ _) rfl (zmS80 C) ?_
                refine zA_tr (L := [none, none, none]) rfl rfl ?_
                refine zA_push rfl rfl zkk5 ?_
                cases H
                exact zA_ret rfl (zret_Z (by decide))
              · cases H
                exact zA_callX (as := [zrv x0, zrv x1]) (st' := []) rfl rfl (zrcv_Q e23 c24) rfl (zmE80 _ _) rfl rfl rfl (zmS80 C)
            · refine zA_brT' (c := x48 = 0) rfl rfl rfl c53 ?_
              refine zA_tr (L := [none, none, none]) rfl rfl ?_
              refine zA_push rfl rfl zkk5 ?_
              cases H
              exact zA_ret rfl (zret_Z (by decide))
        · cases H
          exact zA_callX (as := [zrv x1]) (st' := []) rfl rfl (zrcv_Q e31 c32) rfl (zmE10 _) rfl rfl rfl (zmS10 C)
      · cases H
        exact zA_callX (as := [zrv x0, zrv v44]) (st' := []) rfl rfl (zrcv_Q e23 c24) rfl (zmE60 _ _) rfl rfl rfl (zmS60 C)
    · cases H
      exact zA_callX (as := [zrv x0, zrv x1]) (st' := []) rfl rfl (zrcv_Q e23 c24) rfl (zmE78 _ _) rfl rfl rfl (zmS78 C)
theorem zmE77 (x0 : zq) (x1 : zq) : zpad (zPr.2.1 77).1 (zil [zrv x0, zrv x1]) = [some (zrv x0), some (zrv x1), none] := by
  simp only [zil_A, zil_I, zil_F, zil_D, zil_N]
  rfl
def zm76_35 (k4 : zq → Int32 → Int32 → Int32 → zH → zRs Int32) (x0 : zq) (x1 : Int32) (x2 : Int32) (x3 : Int32) (h : zH) : zRs Int32 :=
  zlet (x3 + (1 : Int32)) fun x21 =>
  k4 x0 x1 x2 x21 h
theorem zmS76_35 {k4 : zq → Int32 → Int32 → Int32 → zH → zRs Int32} (hk4 : ∀ (x0 : zq) (x1 : Int32) (x2 : Int32) (x3 : Int32) (h : zH) (r : Int32 ⊕ Nat) (h' : zH), k4 x0 x1 x2 x3 h = some (r, h') → zAt 76 4 [some (zrv x0), some (zI x1), some (zI x2), some (zI x3), none] [] h (zoI r) h') : ∀ (x0 : zq) (x1 : Int32) (x2 : Int32) (x3 : Int32) (h : zH) (r : Int32 ⊕ Nat) (h' : zH), zm76_35 k4 x0 x1 x2 x3 h = some (r, h') → zAt 76 35 [some (zrv x0), some (zI x1), some (zI x2), some (zI x3), none] [] h (zoI r) h' := by
  intro x0 x1 x2 x3 h r h' H
  unfold zm76_35 at H
  obtain ⟨x21, e22, H⟩ := zlet_e H
  refine zA_inc rfl rfl rfl (e22.trans (congrArg (_ + ·) zkk8)) (zset1 (L' := [some (zrv x0), some (zI x1), some (zI x2), some (zI x21), none]) rfl rfl (zpcV rfl rfl)) ?_
  refine zA_go rfl rfl ?_
  exact zA_tr (L := [some (zrv x0), some (zI x1), some (zI x2), some (zI x21), none]) rfl rfl (hk4 _ _ _ _ _ _ _ H)
def zm76_4 : Nat → zq → Int32 → Int32 → Int32 → zH → zRs Int32
  | 0, _, _, _, _, _ => none
  | n + 1, x0, x1, x2, x3, h =>
    zob 11 x0 fun p21 i22 =>
    zlz (zr h p21 i22 2) h fun v30 =>
    if v30 ≤ x3 then
      some (.inl x2, h)
    else
      if (zi h p21 i22 13) = 0 then
        zlg (zr h p21 i22 2) x3 h fun v40 =>
        zob 5 v40 fun p42 i43 =>
        zob 0 (zr h p42 i43 0) fun p46 i47 =>
        if (zi h p46 i47 8) = x1 then
          if (zi h p42 i43 2) = 0 then
            zb (zm64 x0 v40 h) fun x53 h52 =>
            if x53 = 0 then
              zb (zm77 x0 v40 h52) fun x56 h55 =>
              if x56 = 0 then
                zm76_35 (zm76_4 n) x0 x1 x2 x3 h55
              else
                zlet (x2 + (1 : Int32)) fun x58 =>
                zm76_35 (zm76_4 n) x0 x1 x58 x3 h55
            else
              zm76_35 (zm76_4 n) x0 x1 x2 x3 h52
          else
            zm76_35 (zm76_4 n) x0 x1 x2 x3 h
        else
          zm76_35 (zm76_4 n) x0 x1 x2 x3 h
      else
        some (.inl x2, h)
theorem zmS76_4 : ∀ (n : Nat) (x0 : zq) (x1 : Int32) (x2 : Int32) (x3 : Int32) (h : zH) (r : Int32 ⊕ Nat) (h' : zH), zm76_4 n x0 x1 x2 x3 h = some (r, h') → zAt 76 4 [some (zrv x0), some (zI x1), some (zI x2), some (zI x3), none] [] h (zoI r) h' := by
  intro n
  induction n with
  | zero => intro x0 x1 x2 x3 h r h' H; cases H
  | succ n ih =>
    intro x0 x1 x2 x3 h r h' H
    unfold zm76_4 at H
    refine zA_ldn rfl rfl rfl ?_
    refine zA_aldn rfl rfl rfl ?_
    obtain ⟨p21, i22, e23, c24, H⟩ := zob_e H
    refine zA_gf3 rfl rfl e23 c24 ?_
    obtain ⟨p25, i26, v30, e27, c28, c29, e31, H⟩ := zlz_e H
    refine zA_l2 rfl rfl rfl e27 c28 c29 e31 ?_
    rcases zite_e H with ⟨c32, H⟩ | ⟨c32, H⟩
    · refine zA_brT (c := v30 ≤ x3) rfl rfl rfl c32 ?_
      refine zA_tr (L := [none, none, some (zI x2), none, none]) rfl rfl ?_
      refine zA_ldn rfl rfl rfl ?_
      cases H
      exact zA_ret rfl rfl
    · refine zA_brF (c := v30 ≤ x3) rfl rfl rfl c32 ?_
      refine zA_aldn rfl rfl rfl ?_
      refine zA_gf0 rfl rfl (Or.inr rfl) e23 c24 ?_
      rcases zite_e H with ⟨c33, H⟩ | ⟨c33, H⟩
      · refine zA_brF' (c := (zi h p21 i22 13) = 0) rfl rfl rfl c33 ?_
        refine zA_aldn rfl rfl rfl ?_
        refine zA_gf3 rfl rfl e23 c24 ?_
        refine zA_ldn rfl rfl rfl ?_
        obtain ⟨p34, i35, v40, e36, c37, c38, c39, e41, H⟩ := zlg_e H
        refine zA_l3 rfl rfl rfl e36 c37 c38 c39 e41 ?_
        obtain ⟨p42, i43, e44, c45, H⟩ := zob_e H
        refine zA_cast rfl rfl e44 c45 ?_
        refine zA_ast2 rfl rfl rfl (zset1 (L' := [some (zrv x0), some (zI x1), some (zI x2), some (zI x3), some (zrv v40)]) (zcat_rv _) rfl (zpcV rfl rfl)) ?_
        refine zA_ald rfl rfl rfl ?_
        refine zA_gf3 rfl rfl e44 c45 ?_
        obtain ⟨p46, i47, e48, c49, H⟩ := zob_e H
        refine zA_gf0 rfl rfl (Or.inr rfl) e48 c49 ?_
        refine zA_ldn rfl rfl rfl ?_
        rcases zite_e H with ⟨c50, H⟩ | ⟨c50, H⟩
        · refine zA_brF' (c := (zi h p46 i47 8) = x1) rfl rfl rfl c50 ?_
          refine zA_ald rfl rfl rfl ?_
          refine zA_gf0 rfl rfl (Or.inl rfl) e44 c45 ?_
          rcases zite_e H with ⟨c51, H⟩ | ⟨c51, H⟩
          · refine zA_brF' (c := (zi h p42 i43 2) = 0) rfl rfl rfl c51 ?_
            refine zA_aldn rfl rfl rfl ?_
            refine zA_ald rfl rfl rfl ?_
            rcases zb_e H with ⟨x53, h52, C, H⟩ | ⟨E, h52, C, H⟩
            · refine zA_callV (as := [zrv x0, zrv v40]) (st' := []) rfl rfl rfl (zrcv_Q e23 c24) rfl (zmE64 _ _) rfl (zmS64 C) ?_
              rcases zite_e H with ⟨c54, H⟩ | ⟨c54, H⟩
              · refine zA_brF' (c := x53 = 0) rfl rfl rfl c54 ?_
                refine zA_aldn rfl rfl rfl ?_
                refine zA_ald rfl rfl rfl ?_
                rcases zb_e H with ⟨x56, h55, C, H⟩ | ⟨E, h55, C, H⟩
                · refine zA_callV (as := [zrv x0, zrv v40]) (st' := []) rfl rfl rfl (zrcv_Q e23 c24) rfl (zmE77 _ _) rfl (zmS77 C) ?_
                  rcases zite_e H with ⟨c57, H⟩ | ⟨c57, H⟩
                  · refine zA_brT (c := x56 = 0) rfl rfl rfl c57 ?_
                    exact zA_tr (L := [some (zrv x0), some (zI x1), some (zI x2), some (zI x3), none]) rfl rfl (zmS76_35 ih _ _ _ _ _ _ _ H)
                  · refine zA_brF (c := x56 = 0) rfl rfl rfl c57 ?_
                    obtain ⟨x58, e59, H⟩ := zlet_e H
                    refine zA_inc rfl rfl rfl (e59.trans (congrArg (_ + ·) zkk8)) (zset1 (L' := [some (zrv x0), some (zI x1), some (zI x58), some (zI x3), some (zrv v40)]) rfl rfl (zpcV rfl rfl)) ?_
                    exact zA_tr (L := [some (zrv x0), some (zI x1), some (zI x58), some (zI x3), none]) rfl rfl (zmS76_35 ih _ _ _ _ _ _ _ H)
                · cases H
                  exact zA_callX (as := [zrv x0, zrv v40]) (st' := []) rfl rfl (zrcv_Q e23 c24) rfl (zmE77 _ _) rfl rfl rfl (zmS77 C)
              · refine zA_brT' (c := x53 = 0) rfl rfl rfl c54 ?_
                exact zA_tr (L := [some (zrv x0), some (zI x1), some (zI x2), some (zI x3), none]) rfl rfl (zmS76_35 ih _ _ _ _ _ _ _ H)
            · cases H
              exact zA_callX (as := [zrv x0, zrv v40]) (st' := []) rfl rfl (zrcv_Q e23 c24) rfl (zmE64 _ _) rfl rfl rfl (zmS64 C)
          · refine zA_brT' (c := (zi h p42 i43 2) = 0) rfl rfl rfl c51 ?_
            exact zA_tr (L := [some (zrv x0), some (zI x1), some (zI x2), some (zI x3), none]) rfl rfl (zmS76_35 ih _ _ _ _ _ _ _ H)
        · refine zA_brT' (c := (zi h p46 i47 8) = x1) rfl rfl rfl c50 ?_
          exact zA_tr (L := [some (zrv x0), some (zI x1), some (zI x2), some (zI x3), none]) rfl rfl (zmS76_35 ih _ _ _ _ _ _ _ H)
      · refine zA_brT' (c := (zi h p21 i22 13) = 0) rfl rfl rfl c33 ?_
        refine zA_tr (L := [none, none, some (zI x2), none, none]) rfl rfl ?_
        refine zA_ldn rfl rfl rfl ?_
        cases H
        exact zA_ret rfl rfl
-- 76: ReleaseHouse.takeTurns(Z)I
def zm76 (x0 : zq) (x1 : Int32) (h : zH) : zRs Int32 :=
  zm76_4 zN0 x0 x1 (0 : Int32) (0 : Int32) h
theorem zmS76 {x0 : zq} {x1 : Int32} {h : zH} {r : Int32 ⊕ Nat} {h' : zH} (H : zm76 x0 x1 h = some (r, h')) : zAt 76 0 [some (zrv x0), some (zI x1), none, none, none] [] h (zoI r) h' := by
  unfold zm76 at H
  refine zA_push rfl rfl zkk7 ?_
  refine zA_istn2 rfl rfl rfl (zset1 (L' := [some (zrv x0), some (zI x1), some (zI (0 : Int32)), none, none]) rfl rfl (zpcV rfl rfl)) ?_
  refine zA_push rfl rfl zkk7 ?_
  refine zA_istn2 rfl rfl rfl (zset1 (L' := [some (zrv x0), some (zI x1), some (zI (0 : Int32)), some (zI (0 : Int32)), none]) rfl rfl (zpcV rfl rfl)) ?_
  exact zA_tr (L := [some (zrv x0), some (zI x1), some (zI (0 : Int32)), some (zI (0 : Int32)), none]) rfl rfl (zmS76_4 zN0 _ _ _ _ _ _ _ H)
theorem zmE76 (x0 : zq) (x1 : Int32) : zpad (zPr.2.1 76).1 (zil [zrv x0, zI x1]) = [some (zrv x0), some (zI x1), none, none, none] := by
  simp only [zil_A, zil_I, zil_F, zil_D, zil_N]
  rfl
def zm73_30 (k40 : zq → Int32 → Int32 → Int32 → zH → zRs Int32) : Nat → zq → Int32 → Int32 → Int32 → Int32 → zH → zRs Int32
  | 0, _, _, _, _, _, _ => none
  | n + 1, x0, x1, x2, x3, x4, h =>
    if (4 : Int32) ≤ x4 then
      k40 x0 x1 x2 x3 h
    else
      zob 11 x0 fun p22 i23 =>
      zra (zr h p22 i23 6) x4 h fun v33 =>
      zob 8 v33 fun p35 i36 =>
      zb (zm26 v33 h) fun _ h39 =>
      zlet (x4 + (1 : Int32)) fun x40 =>
      zm73_30 k40 n x0 x1 x2 x3 x40 h39
theorem zmS73_30 {k40 : zq → Int32 → Int32 → Int32 → zH → zRs Int32} (hk40 : ∀ (x0 : zq) (x1 : Int32) (x2 : Int32) (x3 : Int32) (h : zH) (r : Int32 ⊕ Nat) (h' : zH), k40 x0 x1 x2 x3 h = some (r, h') → zAt 73 40 [some (zrv x0), some (zI x1), some (zI x2), some (zI x3), none] [] h (zoI r) h') : ∀ (n : Nat) (x0 : zq) (x1 : Int32) (x2 : Int32) (x3 : Int32) (x4 : Int32) (h : zH) (r : Int32 ⊕ Nat) (h' : zH), zm73_30 k40 n x0 x1 x2 x3 x4 h = some (r, h') → zAt 73 30 [some (zrv x0), some (zI x1), some (zI x2), some (zI x3), some (zI x4)] [] h (zoI r) h' := by
  intro n
  induction n with
  | zero => intro x0 x1 x2 x3 x4 h r h' H; cases H
  | succ n ih =>
    intro x0 x1 x2 x3 x4 h r h' H
    unfold zm73_30 at H
    refine zA_ld rfl rfl rfl ?_
    refine zA_push rfl rfl zkk9 ?_
    rcases zite_e H with ⟨c21, H⟩ | ⟨c21, H⟩
    · refine zA_brT (c := (4 : Int32) ≤ x4) rfl rfl rfl c21 ?_
      exact zA_tr (L := [some (zrv x0), some (zI x1), some (zI x2), some (zI x3), none]) rfl rfl (hk40 _ _ _ _ _ _ _ H)
    · refine zA_brF (c := (4 : Int32) ≤ x4) rfl rfl rfl c21 ?_
      refine zA_aldn rfl rfl rfl ?_
      obtain ⟨p22, i23, e24, c25, H⟩ := zob_e H
      refine zA_gf3 rfl rfl e24 c25 ?_
      refine zA_ld rfl rfl rfl ?_
      obtain ⟨p26, i27, j28, v33, e29, c30, c31, e32, e34, H⟩ := zra_e H
      refine zA_aal rfl rfl e29 c30 c31 e32 e34 ?_
      obtain ⟨p35, i36, e37, c38, H⟩ := zob_e H
      rcases zb_e H with ⟨u42, h39, C, H⟩ | ⟨E, h39, C, H⟩
      · refine zA_callU (as := [zrv v33]) (st' := []) rfl rfl rfl (zrcv_Q e37 c38) rfl (zmE26 _) rfl (zmS26 C) ?_
        obtain ⟨x40, e41, H⟩ := zlet_e H
        refine zA_inc rfl rfl rfl (e41.trans (congrArg (_ + ·) zkk8)) (zset1 (L' := [some (zrv x0), some (zI x1), some (zI x2), some (zI x3), some (zI x40)]) rfl rfl (zpcV rfl rfl)) ?_
        refine zA_go rfl rfl ?_
        exact zA_tr (L := [some (zrv x0), some (zI x1), some (zI x2), some (zI x3), some (zI x40)]) rfl rfl (ih _ _ _ _ _ _ _ _ H)
      · cases H
        exact zA_callX (as := [zrv v33]) (st' := []) rfl rfl (zrcv_Q e37 c38) rfl (zmE26 _) rfl rfl rfl (zmS26 C)
def zm73_40 (k19 : zq → Int32 → Int32 → Int32 → zH → zRs Int32) (x0 : zq) (x1 : Int32) (x2 : Int32) (x3 : Int32) (h : zH) : zRs Int32 :=
  zob 11 x0 fun p21 i22 =>
  zb (zm74 x0 h) fun _ h25 =>
  zb (zm76 x0 (1 : Int32) h25) fun x27 h26 =>
  zlet (x2 + x27) fun x28 =>
  zb (zm76 x0 (0 : Int32) h26) fun x31 h30 =>
  zlet (x28 + x31) fun x32 =>
  zlet (x3 + (1 : Int32)) fun x34 =>
  k19 x0 x1 x32 x34 h30
theorem zmS73_40 {k19 : zq → Int32 → Int32 → Int32 → zH → zRs Int32} (hk19 : ∀ (x0 : zq) (x1 : Int32) (x2 : Int32) (x3 : Int32) (h : zH) (r : Int32 ⊕ Nat) (h' : zH), k19 x0 x1 x2 x3 h = some (r, h') → zAt 73 19 [some (zrv x0), some (zI x1), some (zI x2), some (zI x3), none] [] h (zoI r) h') : ∀ (x0 : zq) (x1 : Int32) (x2 : Int32) (x3 : Int32) (h : zH) (r : Int32 ⊕ Nat) (h' : zH), zm73_40 k19 x0 x1 x2 x3 h = some (r, h') → zAt 73 40 [some (zrv x0), some (zI x1), some (zI x2), some (zI x3), none] [] h (zoI r) h' := by
  intro x0 x1 x2 x3 h r h' H
  unfold zm73_40 at H
  refine zA_aldn rfl rfl rfl ?_
  obtain ⟨p21, i22, e23, c24, H⟩ := zob_e H
  rcases zb_e H with ⟨u36, h25, C, H⟩ | ⟨E, h25, C, H⟩
  · refine zA_callU (as := [zrv x0]) (st' := []) rfl rfl rfl (zrcv_Q e23 c24) rfl (zmE74 _) rfl (zmS74 C) ?_
    refine zA_ldn rfl rfl rfl ?_
    refine zA_aldn rfl rfl rfl ?_
    refine zA_push rfl rfl zkk5 ?_
    rcases zb_e H with ⟨x27, h26, C, H⟩ | ⟨E, h26, C, H⟩
    · refine zA_callV (as := [zrv x0, zI (1 : Int32)]) (st' := [zI x2]) rfl rfl rfl (zrcv_Q e23 c24) rfl (zmE76 _ _) rfl (zmS76 C) ?_
      refine zA_st (st' := [zI (x2 + x27)]) rfl rfl rfl rfl ?_
      obtain ⟨x28, e29, H⟩ := zlet_e H
      refine zA_istn2 rfl rfl e29 (zset1 (L' := [some (zrv x0), some (zI x1), some (zI x28), some (zI x3), none]) rfl rfl (zpcV rfl rfl)) ?_
      refine zA_ldn rfl rfl rfl ?_
      refine zA_aldn rfl rfl rfl ?_
      refine zA_push rfl rfl zkk7 ?_
      rcases zb_e H with ⟨x31, h30, C, H⟩ | ⟨E, h30, C, H⟩
      · refine zA_callV (as := [zrv x0, zI (0 : Int32)]) (st' := [zI x28]) rfl rfl rfl (zrcv_Q e23 c24) rfl (zmE76 _ _) rfl (zmS76 C) ?_
        refine zA_st (st' := [zI (x28 + x31)]) rfl rfl rfl rfl ?_
        obtain ⟨x32, e33, H⟩ := zlet_e H
        refine zA_istn2 rfl rfl e33 (zset1 (L' := [some (zrv x0), some (zI x1), some (zI x32), some (zI x3), none]) rfl rfl (zpcV rfl rfl)) ?_
        obtain ⟨x34, e35, H⟩ := zlet_e H
        refine zA_inc rfl rfl rfl (e35.trans (congrArg (_ + ·) zkk8)) (zset1 (L' := [some (zrv x0), some (zI x1), some (zI x32), some (zI x34), none]) rfl rfl (zpcV rfl rfl)) ?_
        refine zA_go rfl rfl ?_
        exact zA_tr (L := [some (zrv x0), some (zI x1), some (zI x32), some (zI x34), none]) rfl rfl (hk19 _ _ _ _ _ _ _ H)
      · cases H
        exact zA_callX (as := [zrv x0, zI (0 : Int32)]) (st' := [zI x28]) rfl rfl (zrcv_Q e23 c24) rfl (zmE76 _ _) rfl rfl rfl (zmS76 C)
    · cases H
      exact zA_callX (as := [zrv x0, zI (1 : Int32)]) (st' := [zI x2]) rfl rfl (zrcv_Q e23 c24) rfl (zmE76 _ _) rfl rfl rfl (zmS76 C)
  · cases H
    exact zA_callX (as := [zrv x0]) (st' := []) rfl rfl (zrcv_Q e23 c24) rfl (zmE74 _) rfl rfl rfl (zmS74 C)
def zm73_19 : Nat → zq → Int32 → Int32 → Int32 → zH → zRs Int32
  | 0, _, _, _, _, _ => none
  | n + 1, x0, x1, x2, x3, h =>
    if x1 ≤ x3 then
      some (.inl x2, h)
    else
      zob 11 x0 fun p22 i23 =>
      zlet (zsi h p22 i23 11 ((zi h p22 i23 11) + (1 : Int32))) fun h26 =>
      zm73_30 (zm73_40 (zm73_19 n)) zN0 x0 x1 x2 x3 (0 : Int32) h26
theorem zmS73_19 : ∀ (n : Nat) (x0 : zq) (x1 : Int32) (x2 : Int32) (x3 : Int32) (h : zH) (r : Int32 ⊕ Nat) (h' : zH), zm73_19 n x0 x1 x2 x3 h = some (r, h') → zAt 73 19 [some (zrv x0), some (zI x1), some (zI x2), some (zI x3), none] [] h (zoI r) h' := by
  intro n
  induction n with
  | zero => intro x0 x1 x2 x3 h r h' H; cases H
  | succ n ih =>
    intro x0 x1 x2 x3 h r h' H
    unfold zm73_19 at H
    refine zA_ldn rfl rfl rfl ?_
    refine zA_ldn rfl rfl rfl ?_
    rcases zite_e H with ⟨c21, H⟩ | ⟨c21, H⟩
    · refine zA_brT (c := x1 ≤ x3) rfl rfl rfl c21 ?_
      refine zA_tr (L := [none, none, some (zI x2), none, none]) rfl rfl ?_
      refine zA_ldn rfl rfl rfl ?_
      cases H
      exact zA_ret rfl rfl
    · refine zA_brF (c := x1 ≤ x3) rfl rfl rfl c21 ?_
      refine zA_aldn rfl rfl rfl ?_
      refine zA_dup rfl rfl (zcat_rv _) ?_
      obtain ⟨p22, i23, e24, c25, H⟩ := zob_e H
      refine zA_gf0 rfl rfl (Or.inl rfl) e24 c25 ?_
      refine zA_push rfl rfl zkk5 ?_
      refine zA_st (st' := [zI ((zi h p22 i23 11) + (1 : Int32)), zrv x0]) rfl rfl rfl rfl ?_
      obtain ⟨h26, e27, H⟩ := zlet_e H
      refine zA_pf0 rfl rfl e24 c25 e27 ?_
      refine zA_push rfl rfl zkk7 ?_
      refine zA_ist2 rfl rfl rfl (zset1 (L' := [some (zrv x0), some (zI x1), some (zI x2), some (zI x3), some (zI (0 : Int32))]) rfl rfl (zpcV rfl rfl)) ?_
      exact zA_tr (L := [some (zrv x0), some (zI x1), some (zI x2), some (zI x3), some (zI (0 : Int32))]) rfl rfl (zmS73_30 (zmS73_40 ih) zN0 _ _ _ _ _ _ _ _ H)
-- 73: ReleaseHouse.pass(I)I
def zm73 (x0 : zq) (x1 : Int32) (h : zH) : zRs Int32 :=
  zb (zm131 x1 (1 : Int32) (200 : Int32) h) fun _ h21 =>
  zob 11 x0 fun p22 i23 =>
  if ((zi h21 p22 i23 11) + x1) ≤ (20000 : Int32) then
    zm73_19 zN0 x0 x1 (0 : Int32) (0 : Int32) h21
  else
    some (.inr 1, zro h21 1 6)
theorem zmS73 {x0 : zq} {x1 : Int32} {h : zH} {r : Int32 ⊕ Nat} {h' : zH} (H : zm73 x0 x1 h = some (r, h')) : zAt 73 0 [some (zrv x0), some (zI x1), none, none, none] [] h (zoI r) h' := by
  unfold zm73 at H
  refine zA_ldn rfl rfl rfl ?_
  refine zA_push rfl rfl zkk5 ?_
  refine zA_push rfl rfl zkk4 ?_
  rcases zb_e H with ⟨u27, h21, C, H⟩ | ⟨E, h21, C, H⟩
  · refine zA_callU (as := [zI x1, zI (1 : Int32), zI (200 : Int32)]) (st' := []) rfl rfl rfl rfl rfl (zmE131 _ _ _) rfl (zmS131 C) ?_
    refine zA_aldn rfl rfl rfl ?_
    obtain ⟨p22, i23, e24, c25, H⟩ := zob_e H
    refine zA_gf0 rfl rfl (Or.inl rfl) e24 c25 ?_
    refine zA_ldn rfl rfl rfl ?_
    refine zA_st (st' := [zI ((zi h21 p22 i23 11) + x1)]) rfl rfl rfl rfl ?_
    refine zA_push rfl rfl zkk34 ?_
    rcases zite_e H with ⟨c26, H⟩ | ⟨c26, H⟩
    · refine zA_brT (c := ((zi h21 p22 i23 11) + x1) ≤ (20000 : Int32)) rfl rfl rfl c26 ?_
      refine zA_push rfl rfl zkk7 ?_
      refine zA_istn2 rfl rfl rfl (zset1 (L' := [some (zrv x0), some (zI x1), some (zI (0 : Int32)), none, none]) rfl rfl (zpcV rfl rfl)) ?_
      refine zA_push rfl rfl zkk7 ?_
      refine zA_istn2 rfl rfl rfl (zset1 (L' := [some (zrv x0), some (zI x1), some (zI (0 : Int32)), some (zI (0 : Int32)), none]) rfl rfl (zpcV rfl rfl)) ?_
      exact zA_tr (L := [some (zrv x0), some (zI x1), some (zI (0 : Int32)), some (zI (0 : Int32)), none]) rfl rfl (zmS73_19 zN0 _ _ _ _ _ _ _ H)
    · refine zA_brF (c := ((zi h21 p22 i23 11) + x1) ≤ (20000 : Int32)) rfl rfl rfl c26 ?_
      cases H
      exact zA_thr rfl rfl
  · cases H
    exact zA_callX (as := [zI x1, zI (1 : Int32), zI (200 : Int32)]) (st' := []) rfl rfl rfl rfl (zmE131 _ _ _) rfl rfl rfl (zmS131 C)
theorem zmE73 (x0 : zq) (x1 : Int32) : zpad (zPr.2.1 73).1 (zil [zrv x0, zI x1]) = [some (zrv x0), some (zI x1), none, none, none] := by
  simp only [zil_A, zil_I, zil_F, zil_D, zil_N]
  rfl
-- 55: ReleaseHouse.stop(I)I
def zm55 (x0 : zq) (x1 : Int32) (h : zH) : zRs Int32 :=
  zob 11 x0 fun p21 i22 =>
  zlz (zr h p21 i22 2) h fun v30 =>
  zb (zm130 x1 v30 h) fun _ h32 =>
  zlg (zr h32 p21 i22 2) x1 h32 fun v39 =>
  zob 5 v39 fun p41 i42 =>
  zb (zm10 v39 h32) fun x46 h45 =>
  if x46 = 0 then
    zb (zm56 x0 v39 h45) fun x49 h48 =>
    zob 0 (zr h48 p41 i42 0) fun p50 i51 =>
    zra (zr h48 p21 i22 6) (zi h48 p50 i51 1) h48 fun v61 =>
    zb (zm60 x0 v61 h48) fun _ h63 =>
    some (.inl x49, h63)
  else
    some (.inr 1, zro h45 1 6)
theorem zmS55 {x0 : zq} {x1 : Int32} {h : zH} {r : Int32 ⊕ Nat} {h' : zH} (H : zm55 x0 x1 h = some (r, h')) : zAt 55 0 [some (zrv x0), some (zI x1), none, none] [] h (zoI r) h' := by
  unfold zm55 at H
  refine zA_ldn rfl rfl rfl ?_
  refine zA_aldn rfl rfl rfl ?_
  obtain ⟨p21, i22, e23, c24, H⟩ := zob_e H
  refine zA_gf3 rfl rfl e23 c24 ?_
  obtain ⟨p25, i26, v30, e27, c28, c29, e31, H⟩ := zlz_e H
  refine zA_l2 rfl rfl rfl e27 c28 c29 e31 ?_
  rcases zb_e H with ⟨u65, h32, C, H⟩ | ⟨E, h32, C, H⟩
  · refine zA_callU (as := [zI x1, zI v30]) (st' := []) rfl rfl rfl rfl rfl (zmE130 _ _) rfl (zmS130 C) ?_
    refine zA_aldn rfl rfl rfl ?_
    refine zA_gf3 rfl rfl e23 c24 ?_
    refine zA_ldn rfl rfl rfl ?_
    obtain ⟨p33, i34, v39, e35, c36, c37, c38, e40, H⟩ := zlg_e H
    refine zA_l3 rfl rfl rfl e35 c36 c37 c38 e40 ?_
    obtain ⟨p41, i42, e43, c44, H⟩ := zob_e H
    refine zA_cast rfl rfl e43 c44 ?_
    refine zA_astn2 rfl rfl rfl (zset1 (L' := [some (zrv x0), some (zI x1), some (zrv v39), none]) (zcat_rv _) rfl (zpcV rfl rfl)) ?_
    refine zA_aldn rfl rfl rfl ?_
    rcases zb_e H with ⟨x46, h45, C, H⟩ | ⟨E, h45, C, H⟩
    · refine zA_callV (as := [zrv v39]) (st' := []) rfl rfl rfl (zrcv_Q e43 c44) rfl (zmE10 _) rfl (zmS10 C) ?_
      rcases zite_e H with ⟨c47, H⟩ | ⟨c47, H⟩
      · refine zA_brT (c := x46 = 0) rfl rfl rfl c47 ?_
        refine zA_tr (L := [some (zrv x0), none, some (zrv v39), none]) rfl rfl ?_
        refine zA_aldn rfl rfl rfl ?_
        refine zA_aldn rfl rfl rfl ?_
        rcases zb_e H with ⟨x49, h48, C, H⟩ | ⟨E, h48, C, H⟩
        · refine zA_callV (as := [zrv x0, zrv v39]) (st' := []) rfl rfl rfl (zrcv_Q e23 c24) rfl (zmE56 _ _) rfl (zmS56 C) ?_
          refine zA_istn2 rfl rfl rfl (zset1 (L' := [some (zrv x0), none, some (zrv v39), some (zI x49)]) rfl rfl (zpcV rfl (zcat_rv _))) ?_
          refine zA_aldn rfl rfl rfl ?_
          refine zA_aldn rfl rfl rfl ?_
          refine zA_gf3 rfl rfl e23 c24 ?_
          refine zA_aldn rfl rfl rfl ?_
          refine zA_gf3 rfl rfl e43 c44 ?_
          obtain ⟨p50, i51, e52, c53, H⟩ := zob_e H
          refine zA_gf0 rfl rfl (Or.inl rfl) e52 c53 ?_
          obtain ⟨p54, i55, j56, v61, e57, c58, c59, e60, e62, H⟩ := zra_e H
          refine zA_aal rfl rfl e57 c58 c59 e60 e62 ?_
          rcases zb_e H with ⟨u64, h63, C, H⟩ | ⟨E, h63, C, H⟩
          · refine zA_callU (as := [zrv x0, zrv v61]) (st' := []) rfl rfl rfl (zrcv_Q e23 c24) rfl (zmE60 _ _) rfl (zmS60 C) ?_
            refine zA_ldn rfl rfl rfl ?_
            cases H
            exact zA_ret rfl rfl
          · cases H
            exact zA_callX (as := [zrv x0, zrv v61]) (st' := []) rfl rfl (zrcv_Q e23 c24) rfl (zmE60 _ _) rfl rfl rfl (zmS60 C)
        · cases H
          exact zA_callX (as := [zrv x0, zrv v39]) (st' := []) rfl rfl (zrcv_Q e23 c24) rfl (zmE56 _ _) rfl rfl rfl (zmS56 C)
      · refine zA_brF (c := x46 = 0) rfl rfl rfl c47 ?_
        cases H
        exact zA_thr rfl rfl
    · cases H
      exact zA_callX (as := [zrv v39]) (st' := []) rfl rfl (zrcv_Q e43 c44) rfl (zmE10 _) rfl rfl rfl (zmS10 C)
  · cases H
    exact zA_callX (as := [zI x1, zI v30]) (st' := []) rfl rfl rfl rfl (zmE130 _ _) rfl rfl rfl (zmS130 C)
theorem zmE55 (x0 : zq) (x1 : Int32) : zpad (zPr.2.1 55).1 (zil [zrv x0, zI x1]) = [some (zrv x0), some (zI x1), none, none] := by
  simp only [zil_A, zil_I, zil_F, zil_D, zil_N]
  rfl
-- 63: ReleaseHouse.why(I)I
def zm63 (x0 : zq) (x1 : Int32) (h : zH) : zRs Int32 :=
  zob 11 x0 fun p21 i22 =>
  zlz (zr h p21 i22 2) h fun v30 =>
  zb (zm130 x1 v30 h) fun _ h32 =>
  zlg (zr h32 p21 i22 2) x1 h32 fun v39 =>
  zob 5 v39 fun p41 i42 =>
  zb (zm10 v39 h32) fun x46 h45 =>
  if x46 = 0 then
    if (zi h45 p21 i22 13) = 0 then
      if (zi h45 p41 i42 2) = (1 : Int32) then
        some (.inl (1 : Int32), h45)
      else
        zb (zm64 x0 v39 h45) fun x51 h50 =>
        some (.inl x51, h50)
    else
      some (.inl (13 : Int32), h45)
  else
    some (.inl (14 : Int32), h45)
theorem zmS63 {x0 : zq} {x1 : Int32} {h : zH} {r : Int32 ⊕ Nat} {h' : zH} (H : zm63 x0 x1 h = some (r, h')) : zAt 63 0 [some (zrv x0), some (zI x1), none] [] h (zoI r) h' := by
  unfold zm63 at H
  refine zA_ldn rfl rfl rfl ?_
  refine zA_aldn rfl rfl rfl ?_
  obtain ⟨p21, i22, e23, c24, H⟩ := zob_e H
  refine zA_gf3 rfl rfl e23 c24 ?_
  obtain ⟨p25, i26, v30, e27, c28, c29, e31, H⟩ := zlz_e H
  refine zA_l2 rfl rfl rfl e27 c28 c29 e31 ?_
  rcases zb_e H with ⟨u52, h32, C, H⟩ | ⟨E, h32, C, H⟩
  · refine zA_callU (as := [zI x1, zI v30]) (st' := []) rfl rfl rfl rfl rfl (zmE130 _ _) rfl (zmS130 C) ?_
    refine zA_aldn rfl rfl rfl ?_
    refine zA_gf3 rfl rfl e23 c24 ?_
    refine zA_ldn rfl rfl rfl ?_
    obtain ⟨p33, i34, v39, e35, c36, c37, c38, e40, H⟩ := zlg_e H
    refine zA_l3 rfl rfl rfl e35 c36 c37 c38 e40 ?_
    obtain ⟨p41, i42, e43, c44, H⟩ := zob_e H
    refine zA_cast rfl rfl e43 c44 ?_
    refine zA_astn2 rfl rfl rfl (zset1 (L' := [some (zrv x0), some (zI x1), some (zrv v39)]) (zcat_rv _) rfl (zpcV rfl rfl)) ?_
    refine zA_aldn rfl rfl rfl ?_
    rcases zb_e H with ⟨x46, h45, C, H⟩ | ⟨E, h45, C, H⟩
    · refine zA_callV (as := [zrv v39]) (st' := []) rfl rfl rfl (zrcv_Q e43 c44) rfl (zmE10 _) rfl (zmS10 C) ?_
      rcases zite_e H with ⟨c47, H⟩ | ⟨c47, H⟩
      · refine zA_brT (c := x46 = 0) rfl rfl rfl c47 ?_
        refine zA_tr (L := [some (zrv x0), none, some (zrv v39)]) rfl rfl ?_
        refine zA_aldn rfl rfl rfl ?_
        refine zA_gf0 rfl rfl (Or.inr rfl) e23 c24 ?_
        rcases zite_e H with ⟨c48, H⟩ | ⟨c48, H⟩
        · refine zA_brT (c := (zi h45 p21 i22 13) = 0) rfl rfl rfl c48 ?_
          refine zA_aldn rfl rfl rfl ?_
          refine zA_gf0 rfl rfl (Or.inl rfl) e43 c44 ?_
          refine zA_push rfl rfl zkk5 ?_
          rcases zite_e H with ⟨c49, H⟩ | ⟨c49, H⟩
          · refine zA_brF' (c := (zi h45 p41 i42 2) = (1 : Int32)) rfl rfl rfl c49 ?_
            refine zA_push rfl rfl zkk5 ?_
            refine zA_go rfl rfl ?_
            refine zA_tr (L := [none, none, none]) rfl rfl ?_
            cases H
            exact zA_ret rfl rfl
          · refine zA_brT' (c := (zi h45 p41 i42 2) = (1 : Int32)) rfl rfl rfl c49 ?_
            refine zA_aldn rfl rfl rfl ?_
            refine zA_aldn rfl rfl rfl ?_
            rcases zb_e H with ⟨x51, h50, C, H⟩ | ⟨E, h50, C, H⟩
            · refine zA_callV (as := [zrv x0, zrv v39]) (st' := []) rfl rfl rfl (zrcv_Q e23 c24) rfl (zmE64 _ _) rfl (zmS64 C) ?_
              refine zA_tr (L := [none, none, none]) rfl rfl ?_
              cases H
              exact zA_ret rfl rfl
            · cases H
              exact zA_callX (as := [zrv x0, zrv v39]) (st' := []) rfl rfl (zrcv_Q e23 c24) rfl (zmE64 _ _) rfl rfl rfl (zmS64 C)
        · refine zA_brF (c := (zi h45 p21 i22 13) = 0) rfl rfl rfl c48 ?_
          refine zA_push rfl rfl zkk35 ?_
          cases H
          exact zA_ret rfl rfl
      · refine zA_brF (c := x46 = 0) rfl rfl rfl c47 ?_
        refine zA_push rfl rfl zkk36 ?_
        cases H
        exact zA_ret rfl rfl
    · cases H
      exact zA_callX (as := [zrv v39]) (st' := []) rfl rfl (zrcv_Q e43 c44) rfl (zmE10 _) rfl rfl rfl (zmS10 C)
  · cases H
    exact zA_callX (as := [zI x1, zI v30]) (st' := []) rfl rfl rfl rfl (zmE130 _ _) rfl rfl rfl (zmS130 C)
theorem zmE63 (x0 : zq) (x1 : Int32) : zpad (zPr.2.1 63).1 (zil [zrv x0, zI x1]) = [some (zrv x0), some (zI x1), none] := by
  simp only [zil_A, zil_I, zil_F, zil_D, zil_N]
  rfl
-- 135: ReleaseHouse.ringOf(I)I
def zm135 (x0 : Int32) (h : zH) : zRs Int32 :=
  zlet (x0 - x0 / (10 : Int32) * (10 : Int32)) fun x22 =>
  if x22 = 0 then
    some (.inl (0 : Int32), h)
  else
    if (3 : Int32) < x22 then
      some (.inl (2 : Int32), h)
    else
      some (.inl (1 : Int32), h)
theorem zmS135 {x0 : Int32} {h : zH} {r : Int32 ⊕ Nat} {h' : zH} (H : zm135 x0 h = some (r, h')) : zAt 135 0 [some (zI x0), none] [] h (zoI r) h' := by
  unfold zm135 at H
  refine zA_ldn rfl rfl rfl ?_
  refine zA_push rfl rfl zkk13 ?_
  refine zA_rem rfl rfl (by decide) ?_
  obtain ⟨x22, e23, H⟩ := zlet_e H
  refine zA_istn2 rfl rfl e23 (zset1 (L' := [some (zI x0), some (zI x22)]) rfl rfl (zpcV rfl rfl)) ?_
  refine zA_ldn rfl rfl rfl ?_
  rcases zite_e H with ⟨c24, H⟩ | ⟨c24, H⟩
  · refine zA_brF' (c := x22 = 0) rfl rfl rfl c24 ?_
    refine zA_push rfl rfl zkk7 ?_
    cases H
    exact zA_ret rfl rfl
  · refine zA_brT' (c := x22 = 0) rfl rfl rfl c24 ?_
    refine zA_tr (L := [none, some (zI x22)]) rfl rfl ?_
    refine zA_ldn rfl rfl rfl ?_
    refine zA_push rfl rfl zkk3 ?_
    rcases zite_e H with ⟨c25, H⟩ | ⟨c25, H⟩
    · refine zA_brT (c := (3 : Int32) < x22) rfl rfl rfl c25 ?_
      refine zA_tr (L := [none, none]) rfl rfl ?_
      refine zA_push rfl rfl zkk15 ?_
      cases H
      exact zA_ret rfl rfl
    · refine zA_brF (c := (3 : Int32) < x22) rfl rfl rfl c25 ?_
      refine zA_push rfl rfl zkk5 ?_
      refine zA_go rfl rfl ?_
      refine zA_tr (L := [none, none]) rfl rfl ?_
      cases H
      exact zA_ret rfl rfl
theorem zmE135 (x0 : Int32) : zpad (zPr.2.1 135).1 (zil [zI x0]) = [some (zI x0), none] := by
  simp only [zil_A, zil_I, zil_F, zil_D, zil_N]
  rfl
-- 89: ReleaseHouse.seenBy(II)LReleaseHouse$Artefact;
def zm89 (x0 : zq) (x1 : Int32) (x2 : Int32) (h : zH) : zRs zq :=
  zob 11 x0 fun p21 i22 =>
  zra (zr h p21 i22 6) x1 h fun v32 =>
  zob 8 v32 fun p34 i35 =>
  zra (zr h p34 i35 2) x2 h fun v45 =>
  if v45 = none then
    zra (zr h p21 i22 6) x1 h fun v55 =>
    zob 8 v55 fun p57 i58 =>
    zb (zm135 x2 h) fun x62 h61 =>
    zra (zr h p57 i58 0) x62 h61 fun v70 =>
    zlet ((((37 : Int32) * x2) + ((11 : Int32) * x1)) - (((37 : Int32) * x2) + ((11 : Int32) * x1)) / (100 : Int32) * (100 : Int32)) fun x73 =>
    zob 9 v70 fun p75 i76 =>
    if (zi h61 p75 i76 2) ≤ x73 then
      some (.inl (zr h61 p75 i76 0), h61)
    else
      some (.inl (zr h61 p75 i76 1), h61)
  else
    some (.inl v45, h)
theorem zmS89 {x0 : zq} {x1 : Int32} {x2 : Int32} {h : zH} {r : zq ⊕ Nat} {h' : zH} (H : zm89 x0 x1 x2 h = some (r, h')) : zAt 89 0 [some (zrv x0), some (zI x1), some (zI x2), none, none, none] [] h (zoA r) h' := by
  unfold zm89 at H
  refine zA_aldn rfl rfl rfl ?_
  obtain ⟨p21, i22, e23, c24, H⟩ := zob_e H
  refine zA_gf3 rfl rfl e23 c24 ?_
  refine zA_ldn rfl rfl rfl ?_
  obtain ⟨p25, i26, j27, v32, e28, c29, c30, e31, e33, H⟩ := zra_e H
  refine zA_aal rfl rfl e28 c29 c30 e31 e33 ?_
  obtain ⟨p34, i35, e36, c37, H⟩ := zob_e H
  refine zA_gf3 rfl rfl e36 c37 ?_
  refine zA_ldn rfl rfl rfl ?_
  obtain ⟨p38, i39, j40, v45, e41, c42, c43, e44, e46, H⟩ := zra_e H
  refine zA_aal rfl rfl e41 c42 c43 e44 e46 ?_
  refine zA_astn2 rfl rfl rfl (zset1 (L' := [some (zrv x0), some (zI x1), some (zI x2), some (zrv v45), none, none]) (zcat_rv _) rfl (zpcV rfl rfl)) ?_
  refine zA_aldn rfl rfl rfl ?_
  rcases zite_e H with ⟨c47, H⟩ | ⟨c47, H⟩
  · refine zA_brT (c := v45 = none) rfl rfl zIf_null c47 ?_
    refine zA_tr (L := [some (zrv x0), some (zI x1), some (zI x2), none, none, none]) rfl rfl ?_
    refine zA_aldn rfl rfl rfl ?_
    refine zA_gf3 rfl rfl e23 c24 ?_
    refine zA_ldn rfl rfl rfl ?_
    obtain ⟨p48, i49, j50, v55, e51, c52, c53, e54, e56, H⟩ := zra_e H
    refine zA_aal rfl rfl e51 c52 c53 e54 e56 ?_
    obtain ⟨p57, i58, e59, c60, H⟩ := zob_e H
    refine zA_gf3 rfl rfl e59 c60 ?_
    refine zA_ldn rfl rfl rfl ?_
    rcases zb_e H with ⟨x62, h61, C, H⟩ | ⟨E, h61, C, H⟩
    · refine zA_callV (as := [zI x2]) (st' := [zrv (zr h p57 i58 0)]) rfl rfl rfl rfl rfl (zmE135 _) rfl (zmS135 C) ?_
      obtain ⟨p63, i64, j65, v70, e66, c67, c68, e69, e71, H⟩ := zra_e H
      refine zA_aal rfl rfl e66 c67 c68 e69 e71 ?_
      refine zA_ast2 rfl rfl rfl (zset1 (L' := [some (zrv x0), some (zI x1), some (zI x2), none, some (zrv v70), none]) (zcat_rv _) rfl (zpcN rfl)) ?_
      refine zA_push rfl rfl zkk37 ?_
      refine zA_ldn rfl rfl rfl ?_
      refine zA_st (st' := [zI ((37 : Int32) * x2)]) rfl rfl rfl rfl ?_
      refine zA_push rfl rfl zkk11 ?_
      refine zA_ldn rfl rfl rfl ?_
      refine zA_st (st' := [zI ((11 : Int32) * x1), zI ((37 : Int32) * x2)]) rfl rfl rfl rfl ?_
      refine zA_st (st' := [zI (((37 : Int32) * x2) + ((11 : Int32) * x1))]) rfl rfl rfl rfl ?_
      refine zA_push rfl rfl zkk18 ?_
      refine zA_rem rfl rfl (by decide) ?_
      obtain ⟨x73, e74, H⟩ := zlet_e H
      refine zA_ist2 rfl rfl e74 (zset1 (L' := [some (zrv x0), some (zI x1), some (zI x2), none, some (zrv v70), some (zI x73)]) rfl rfl (zpcV rfl (zcat_rv _))) ?_
      refine zA_ld rfl rfl rfl ?_
      refine zA_ald rfl rfl rfl ?_
      obtain ⟨p75, i76, e77, c78, H⟩ := zob_e H
      refine zA_gf0 rfl rfl (Or.inl rfl) e77 c78 ?_
      rcases zite_e H with ⟨c79, H⟩ | ⟨c79, H⟩
      · refine zA_brT (c := (zi h61 p75 i76 2) ≤ x73) rfl rfl rfl c79 ?_
        refine zA_tr (L := [none, none, none, none, some (zrv v70), none]) rfl rfl ?_
        refine zA_ald rfl rfl rfl ?_
        refine zA_gf3 rfl rfl e77 c78 ?_
        refine zA_tr (L := [none, none, none, none, none, none]) rfl rfl ?_
        cases H
        exact zA_ret rfl (zret_A _)
      · refine zA_brF (c := (zi h61 p75 i76 2) ≤ x73) rfl rfl rfl c79 ?_
        refine zA_ald rfl rfl rfl ?_
        refine zA_gf3 rfl rfl e77 c78 ?_
        refine zA_go rfl rfl ?_
        refine zA_tr (L := [none, none, none, none, none, none]) rfl rfl ?_
        cases H
        exact zA_ret rfl (zret_A _)
    · cases H
      exact zA_callX (as := [zI x2]) (st' := [zrv (zr h p57 i58 0)]) rfl rfl rfl rfl (zmE135 _) rfl rfl rfl (zmS135 C)
  · refine zA_brF (c := v45 = none) rfl rfl zIf_null c47 ?_
    refine zA_aldn rfl rfl rfl ?_
    cases H
    exact zA_ret rfl (zret_A _)
theorem zmE89 (x0 : zq) (x1 : Int32) (x2 : Int32) : zpad (zPr.2.1 89).1 (zil [zrv x0, zI x1, zI x2]) = [some (zrv x0), some (zI x1), some (zI x2), none, none, none] := by
  simp only [zil_A, zil_I, zil_F, zil_D, zil_N]
  rfl
-- 134: ReleaseHouse.numberOf(LReleaseHouse$Artefact;)I
def zm134 (x0 : zq) (h : zH) : zRs Int32 :=
  if x0 = none then
    some (.inl (-1 : Int32), h)
  else
    zob 0 x0 fun p22 i23 =>
    some (.inl (zi h p22 i23 0), h)
theorem zmS134 {x0 : zq} {h : zH} {r : Int32 ⊕ Nat} {h' : zH} (H : zm134 x0 h = some (r, h')) : zAt 134 0 [some (zrv x0)] [] h (zoI r) h' := by
  unfold zm134 at H
  refine zA_aldn rfl rfl rfl ?_
  rcases zite_e H with ⟨c21, H⟩ | ⟨c21, H⟩
  · refine zA_brF' (c := x0 = none) rfl rfl zIf_nonnull c21 ?_
    refine zA_push rfl rfl zkk6 ?_
    refine zA_go rfl rfl ?_
    refine zA_tr (L := [none]) rfl rfl ?_
    cases H
    exact zA_ret rfl rfl
  · refine zA_brT' (c := x0 = none) rfl rfl zIf_nonnull c21 ?_
    refine zA_aldn rfl rfl rfl ?_
    obtain ⟨p22, i23, e24, c25, H⟩ := zob_e H
    refine zA_gf0 rfl rfl (Or.inl rfl) e24 c25 ?_
    refine zA_tr (L := [none]) rfl rfl ?_
    cases H
    exact zA_ret rfl rfl
theorem zmE134 (x0 : zq) : zpad (zPr.2.1 134).1 (zil [zrv x0]) = [some (zrv x0)] := by
  simp only [zil_A, zil_I, zil_F, zil_D, zil_N]
  rfl
-- 88: ReleaseHouse.sees(II)I
def zm88 (x0 : zq) (x1 : Int32) (x2 : Int32) (h : zH) : zRs Int32 :=
  zb (zm131 x1 (0 : Int32) (3 : Int32) h) fun _ h21 =>
  zb (zm131 x2 (0 : Int32) (199 : Int32) h21) fun _ h22 =>
  zob 11 x0 fun p23 i24 =>
  zb (zm89 x0 x1 x2 h22) fun x28 h27 =>
  zb (zm134 x28 h27) fun x30 h29 =>
  some (.inl x30, h29)
theorem zmS88 {x0 : zq} {x1 : Int32} {x2 : Int32} {h : zH} {r : Int32 ⊕ Nat} {h' : zH} (H : zm88 x0 x1 x2 h = some (r, h')) : zAt 88 0 [some (zrv x0), some (zI x1), some (zI x2)] [] h (zoI r) h' := by
  unfold zm88 at H
  refine zA_ldn rfl rfl rfl ?_
  refine zA_push rfl rfl zkk7 ?_
  refine zA_push rfl rfl zkk3 ?_
  rcases zb_e H with ⟨u32, h21, C, H⟩ | ⟨E, h21, C, H⟩
  · refine zA_callU (as := [zI x1, zI (0 : Int32), zI (3 : Int32)]) (st' := []) rfl rfl rfl rfl rfl (zmE131 _ _ _) rfl (zmS131 C) ?_
    refine zA_ldn rfl rfl rfl ?_
    refine zA_push rfl rfl zkk7 ?_
    refine zA_push rfl rfl zkk38 ?_
    rcases zb_e H with ⟨u31, h22, C, H⟩ | ⟨E, h22, C, H⟩
    · refine zA_callU (as := [zI x2, zI (0 : Int32), zI (199 : Int32)]) (st' := []) rfl rfl rfl rfl rfl (zmE131 _ _ _) rfl (zmS131 C) ?_
      refine zA_aldn rfl rfl rfl ?_
      refine zA_ldn rfl rfl rfl ?_
      refine zA_ldn rfl rfl rfl ?_
      obtain ⟨p23, i24, e25, c26, H⟩ := zob_e H
      rcases zb_e H with ⟨x28, h27, C, H⟩ | ⟨E, h27, C, H⟩
      · refine zA_callV (as := [zrv x0, zI x1, zI x2]) (st' := []) rfl rfl rfl (zrcv_Q e25 c26) rfl (zmE89 _ _ _) rfl (zmS89 C) ?_
        rcases zb_e H with ⟨x30, h29, C, H⟩ | ⟨E, h29, C, H⟩
        · refine zA_callV (as := [zrv x28]) (st' := []) rfl rfl rfl rfl rfl (zmE134 _) rfl (zmS134 C) ?_
          cases H
          exact zA_ret rfl rfl
        · cases H
          exact zA_callX (as := [zrv x28]) (st' := []) rfl rfl rfl rfl (zmE134 _) rfl rfl rfl (zmS134 C)
      · cases H
        exact zA_callX (as := [zrv x0, zI x1, zI x2]) (st' := []) rfl rfl (zrcv_Q e25 c26) rfl (zmE89 _ _ _) rfl rfl rfl (zmS89 C)
    · cases H
      exact zA_callX (as := [zI x2, zI (0 : Int32), zI (199 : Int32)]) (st' := []) rfl rfl rfl rfl (zmE131 _ _ _) rfl rfl rfl (zmS131 C)
  · cases H
    exact zA_callX (as := [zI x1, zI (0 : Int32), zI (3 : Int32)]) (st' := []) rfl rfl rfl rfl (zmE131 _ _ _) rfl rfl rfl (zmS131 C)
theorem zmE88 (x0 : zq) (x1 : Int32) (x2 : Int32) : zpad (zPr.2.1 88).1 (zil [zrv x0, zI x1, zI x2]) = [some (zrv x0), some (zI x1), some (zI x2)] := by
  simp only [zil_A, zil_I, zil_F, zil_D, zil_N]
  rfl
-- 91: ReleaseHouse.begin(II)I
def zm91 (x0 : zq) (x1 : Int32) (x2 : Int32) (h : zH) : zRs Int32 :=
  zb (zm131 x1 (0 : Int32) (3 : Int32) h) fun _ h21 =>
  zb (zm131 x2 (0 : Int32) (199 : Int32) h21) fun _ h22 =>
  zob 11 x0 fun p23 i24 =>
  zra (zr h22 p23 i24 6) x1 h22 fun v34 =>
  zob 8 v34 fun p36 i37 =>
  zlet (zr h22 p36 i37 2) fun x40 =>
  zb (zm89 x0 x1 x2 h22) fun x43 h42 =>
  zra x40 x2 h42 fun v51 =>
  if v51 = none then
    if x43 = none then
      some (.inr 1, zro h42 1 6)
    else
      if (zi h42 p23 i24 15) < (40 : Int32) then
        zas x40 x43 x2 h42 fun p56 i57 p65 i66 j58 =>
        zlet (zsr h42 p56 i57 j58 (some (p65, i66))) fun h63 =>
        zlet (zsi h63 p23 i24 15 ((zi h63 p23 i24 15) + (1 : Int32))) fun h68 =>
        zob 0 x43 fun p70 i71 =>
        zlet (zsi h68 p70 i71 10 ((zi h68 p70 i71 10) + (1 : Int32))) fun h74 =>
        zb (zm135 x2 h74) fun x77 h76 =>
        zri (zr h74 p70 i71 11) x77 h76 fun v85 =>
        zar 1 (zr h74 p70 i71 11) x77 h76 fun p87 i88 j89 =>
        zlet (zsi h76 p87 i88 j89 (v85 + (1 : Int32))) fun h94 =>
        some (.inl (zi h94 p70 i71 0), h94)
      else
        some (.inr 1, zro h42 1 6)
  else
    some (.inr 1, zro h42 1 6)
theorem zmS91 {x0 : zq} {x1 : Int32} {x2 : Int32} {h : zH} {r : Int32 ⊕ Nat} {h' : zH} (H : zm91 x0 x1 x2 h = some (r, h')) : zAt 91 0 [some (zrv x0), some (zI x1), some (zI x2), none, none] [] h (zoI r) h' := by
  unfold zm91 at H
  refine zA_ldn rfl rfl rfl ?_
  refine zA_push rfl rfl zkk7 ?_
  refine zA_push rfl rfl zkk3 ?_
  rcases zb_e H with ⟨u97, h21, C, H⟩ | ⟨E, h21, C, H⟩
  · refine zA_callU (as := [zI x1, zI (0 : Int32), zI (3 : Int32)]) (st' := []) rfl rfl rfl rfl rfl (zmE131 _ _ _) rfl (zmS131 C) ?_
    refine zA_ldn rfl rfl rfl ?_
    refine zA_push rfl rfl zkk7 ?_
    refine zA_push rfl rfl zkk38 ?_
    rcases zb_e H with ⟨u96, h22, C, H⟩ | ⟨E, h22, C, H⟩
    · refine zA_callU (as := [zI x2, zI (0 : Int32), zI (199 : Int32)]) (st' := []) rfl rfl rfl rfl rfl (zmE131 _ _ _) rfl (zmS131 C) ?_
      refine zA_aldn rfl rfl rfl ?_
      obtain ⟨p23, i24, e25, c26, H⟩ := zob_e H
      refine zA_gf3 rfl rfl e25 c26 ?_
      refine zA_ldn rfl rfl rfl ?_
      obtain ⟨p27, i28, j29, v34, e30, c31, c32, e33, e35, H⟩ := zra_e H
      refine zA_aal rfl rfl e30 c31 c32 e33 e35 ?_
      obtain ⟨p36, i37, e38, c39, H⟩ := zob_e H
      refine zA_gf3 rfl rfl e38 c39 ?_
      obtain ⟨x40, e41, H⟩ := zlet_e H
      refine zA_astn2 rfl rfl e41 (zset1 (L' := [some (zrv x0), some (zI x1), some (zI x2), some (zrv x40), none]) (zcat_rv _) rfl (zpcV rfl rfl)) ?_
      refine zA_aldn rfl rfl rfl ?_
      refine zA_ldn rfl rfl rfl ?_
      refine zA_ldn rfl rfl rfl ?_
      rcases zb_e H with ⟨x43, h42, C, H⟩ | ⟨E, h42, C, H⟩
      · refine zA_callV (as := [zrv x0, zI x1, zI x2]) (st' := []) rfl rfl rfl (zrcv_Q e25 c26) rfl (zmE89 _ _ _) rfl (zmS89 C) ?_
        refine zA_ast2 rfl rfl rfl (zset1 (L' := [some (zrv x0), some (zI x1), some (zI x2), some (zrv x40), some (zrv x43)]) (zcat_rv _) rfl (zpcV rfl (zcat_rv _))) ?_
        refine zA_aldn rfl rfl rfl ?_
        refine zA_ldn rfl rfl rfl ?_
        obtain ⟨p44, i45, j46, v51, e47, c48, c49, e50, e52, H⟩ := zra_e H
        refine zA_aal rfl rfl e47 c48 c49 e50 e52 ?_
        rcases zite_e H with ⟨c53, H⟩ | ⟨c53, H⟩
        · refine zA_brF' (c := v51 = none) rfl rfl zIf_nonnull c53 ?_
          refine zA_ald rfl rfl rfl ?_
          rcases zite_e H with ⟨c54, H⟩ | ⟨c54, H⟩
          · refine zA_brT (c := x43 = none) rfl rfl zIf_null c54 ?_
            refine zA_tr (L := [none, none, none, none, none]) rfl rfl ?_
            cases H
            exact zA_thr rfl rfl
          · refine zA_brF (c := x43 = none) rfl rfl zIf_null c54 ?_
            refine zA_aldn rfl rfl rfl ?_
            refine zA_gf0 rfl rfl (Or.inl rfl) e25 c26 ?_
            refine zA_push rfl rfl zkk39 ?_
            rcases zite_e H with ⟨c55, H⟩ | ⟨c55, H⟩
            · refine zA_brT (c := (zi h42 p23 i24 15) < (40 : Int32)) rfl rfl rfl c55 ?_
              refine zA_tr (L := [some (zrv x0), none, some (zI x2), some (zrv x40), some (zrv x43)]) rfl rfl ?_
              refine zA_aldn rfl rfl rfl ?_
              refine zA_ldn rfl rfl rfl ?_
              refine zA_ald rfl rfl rfl ?_
              obtain ⟨p56, i57, p65, i66, j58, e59, e67, c60, c61, e62, H⟩ := zas_e H
              obtain ⟨h63, e64, H⟩ := zlet_e H
              refine zA_aas rfl rfl e59 e67 c60 c61 e62 e64 ?_
              refine zA_aldn rfl rfl rfl ?_
              refine zA_dup rfl rfl (zcat_rv _) ?_
              refine zA_gf0 rfl rfl (Or.inl rfl) e25 c26 ?_
              refine zA_push rfl rfl zkk5 ?_
              refine zA_st (st' := [zI ((zi h63 p23 i24 15) + (1 : Int32)), zrv x0]) rfl rfl rfl rfl ?_
              obtain ⟨h68, e69, H⟩ := zlet_e H
              refine zA_pf0 rfl rfl e25 c26 e69 ?_
              refine zA_ald rfl rfl rfl ?_
              refine zA_dup rfl rfl (zcat_rv _) ?_
              obtain ⟨p70, i71, e72, c73, H⟩ := zob_e H
              refine zA_gf0 rfl rfl (Or.inl rfl) e72 c73 ?_
              refine zA_push rfl rfl zkk5 ?_
              refine zA_st (st' := [zI ((zi h68 p70 i71 10) + (1 : Int32)), zrv x43]) rfl rfl rfl rfl ?_
              obtain ⟨h74, e75, H⟩ := zlet_e H
              refine zA_pf0 rfl rfl e72 c73 e75 ?_
              refine zA_ald rfl rfl rfl ?_
              refine zA_gf3 rfl rfl e72 c73 ?_
              refine zA_ldn rfl rfl rfl ?_
              rcases zb_e H with ⟨x77, h76, C, H⟩ | ⟨E, h76, C, H⟩
              · refine zA_callV (as := [zI x2]) (st' := [zrv (zr h74 p70 i71 11)]) rfl rfl rfl rfl rfl (zmE135 _) rfl (zmS135 C) ?_
                refine zA_dup2 rfl rfl rfl (zcat_rv _) ?_
                obtain ⟨p78, i79, j80, v85, e81, c82, c83, e84, e86, H⟩ := zri_e H
                refine zA_ial rfl rfl e81 c82 c83 e84 e86 ?_
                refine zA_push rfl rfl zkk5 ?_
                refine zA_st (st' := [zI (v85 + (1 : Int32)), zI x77, zrv (zr h74 p70 i71 11)]) rfl rfl rfl rfl ?_
                obtain ⟨p87, i88, j89, e90, c91, c92, e93, H⟩ := zar_e H
                obtain ⟨h94, e95, H⟩ := zlet_e H
                refine zA_ias rfl rfl e90 c91 c92 e93 e95 ?_
                refine zA_ald rfl rfl rfl ?_
                refine zA_gf0 rfl rfl (Or.inl rfl) e72 c73 ?_
                cases H
                exact zA_ret rfl rfl
              · cases H
                exact zA_callX (as := [zI x2]) (st' := [zrv (zr h74 p70 i71 11)]) rfl rfl rfl rfl (zmE135 _) rfl rfl rfl (zmS135 C)
            · refine zA_brF (c := (zi h42 p23 i24 15) < (40 : Int32)) rfl rfl rfl c55 ?_
              refine zA_tr (L := [none, none, none, none, none]) rfl rfl ?_
              cases H
              exact zA_thr rfl rfl
        · refine zA_brT' (c := v51 = none) rfl rfl zIf_nonnull c53 ?_
          refine zA_tr (L := [none, none, none, none, none]) rfl rfl ?_
          cases H
          exact zA_thr rfl rfl
      · cases H
        exact zA_callX (as := [zrv x0, zI x1, zI x2]) (st' := []) rfl rfl (zrcv_Q e25 c26) rfl (zmE89 _ _ _) rfl rfl rfl (zmS89 C)
    · cases H
      exact zA_callX (as := [zI x2, zI (0 : Int32), zI (199 : Int32)]) (st' := []) rfl rfl rfl rfl (zmE131 _ _ _) rfl rfl rfl (zmS131 C)
  · cases H
    exact zA_callX (as := [zI x1, zI (0 : Int32), zI (3 : Int32)]) (st' := []) rfl rfl rfl rfl (zmE131 _ _ _) rfl rfl rfl (zmS131 C)
theorem zmE91 (x0 : zq) (x1 : Int32) (x2 : Int32) : zpad (zPr.2.1 91).1 (zil [zrv x0, zI x1, zI x2]) = [some (zrv x0), some (zI x1), some (zI x2), none, none] := by
  simp only [zil_A, zil_I, zil_F, zil_D, zil_N]
  rfl
-- 43: ReleaseHouse.isLive(I)Z
def zm43 (x0 : zq) (x1 : Int32) (h : zH) : zRs Int32 :=
  zob 11 x0 fun p21 i22 =>
  zlz (zr h p21 i22 0) h fun v30 =>
  zb (zm130 x1 v30 h) fun _ h32 =>
  zlg (zr h32 p21 i22 0) x1 h32 fun v39 =>
  zob 0 v39 fun p41 i42 =>
  if (zi h32 p41 i42 10) ≤ 0 then
    some (.inl (0 : Int32), h32)
  else
    some (.inl (1 : Int32), h32)
theorem zmS43 {x0 : zq} {x1 : Int32} {h : zH} {r : Int32 ⊕ Nat} {h' : zH} (H : zm43 x0 x1 h = some (r, h')) : zAt 43 0 [some (zrv x0), some (zI x1)] [] h (zoI r) h' := by
  unfold zm43 at H
  refine zA_ldn rfl rfl rfl ?_
  refine zA_aldn rfl rfl rfl ?_
  obtain ⟨p21, i22, e23, c24, H⟩ := zob_e H
  refine zA_gf3 rfl rfl e23 c24 ?_
  obtain ⟨p25, i26, v30, e27, c28, c29, e31, H⟩ := zlz_e H
  refine zA_l2 rfl rfl rfl e27 c28 c29 e31 ?_
  rcases zb_e H with ⟨u46, h32, C, H⟩ | ⟨E, h32, C, H⟩
  · refine zA_callU (as := [zI x1, zI v30]) (st' := []) rfl rfl rfl rfl rfl (zmE130 _ _) rfl (zmS130 C) ?_
    refine zA_aldn rfl rfl rfl ?_
    refine zA_gf3 rfl rfl e23 c24 ?_
    refine zA_ldn rfl rfl rfl ?_
    obtain ⟨p33, i34, v39, e35, c36, c37, c38, e40, H⟩ := zlg_e H
    refine zA_l3 rfl rfl rfl e35 c36 c37 c38 e40 ?_
    obtain ⟨p41, i42, e43, c44, H⟩ := zob_e H
    refine zA_cast rfl rfl e43 c44 ?_
    refine zA_gf0 rfl rfl (Or.inl rfl) e43 c44 ?_
    rcases zite_e H with ⟨c45, H⟩ | ⟨c45, H⟩
    · refine zA_brT (c := (zi h32 p41 i42 10) ≤ 0) rfl rfl rfl c45 ?_
      refine zA_tr (L := [none, none]) rfl rfl ?_
      refine zA_push rfl rfl zkk7 ?_
      cases H
      exact zA_ret rfl (zret_Z (by decide))
    · refine zA_brF (c := (zi h32 p41 i42 10) ≤ 0) rfl rfl rfl c45 ?_
      refine zA_push rfl rfl zkk5 ?_
      refine zA_go rfl rfl ?_
      refine zA_tr (L := [none, none]) rfl rfl ?_
      cases H
      exact zA_ret rfl (zret_Z (by decide))
  · cases H
    exact zA_callX (as := [zI x1, zI v30]) (st' := []) rfl rfl rfl rfl (zmE130 _ _) rfl rfl rfl (zmS130 C)
theorem zmE43 (x0 : zq) (x1 : Int32) : zpad (zPr.2.1 43).1 (zil [zrv x0, zI x1]) = [some (zrv x0), some (zI x1)] := by
  simp only [zil_A, zil_I, zil_F, zil_D, zil_N]
  rfl
-- 92: ReleaseHouse.end(II)I
def zm92 (x0 : zq) (x1 : Int32) (x2 : Int32) (h : zH) : zRs Int32 :=
  zb (zm131 x1 (0 : Int32) (3 : Int32) h) fun _ h21 =>
  zb (zm131 x2 (0 : Int32) (199 : Int32) h21) fun _ h22 =>
  zob 11 x0 fun p23 i24 =>
  zra (zr h22 p23 i24 6) x1 h22 fun v34 =>
  zob 8 v34 fun p36 i37 =>
  zlet (zr h22 p36 i37 2) fun x40 =>
  zra x40 x2 h22 fun v49 =>
  if v49 = none then
    some (.inr 1, zro h22 1 6)
  else
    zar 5 x40 x2 h22 fun p52 i53 j54 =>
    zlet (zsr h22 p52 i53 j54 none) fun h59 =>
    zlet (zsi h59 p23 i24 15 ((zi h59 p23 i24 15) - (1 : Int32))) fun h61 =>
    zob 0 v49 fun p63 i64 =>
    zlet (zsi h61 p63 i64 10 ((zi h61 p63 i64 10) - (1 : Int32))) fun h67 =>
    zb (zm135 x2 h67) fun x70 h69 =>
    zri (zr h67 p63 i64 11) x70 h69 fun v78 =>
    zar 1 (zr h67 p63 i64 11) x70 h69 fun p80 i81 j82 =>
    zlet (zsi h69 p80 i81 j82 (v78 - (1 : Int32))) fun h87 =>
    some (.inl (zi h87 p63 i64 0), h87)
theorem zmS92 {x0 : zq} {x1 : Int32} {x2 : Int32} {h : zH} {r : Int32 ⊕ Nat} {h' : zH} (H : zm92 x0 x1 x2 h = some (r, h')) : zAt 92 0 [some (zrv x0), some (zI x1), some (zI x2), none, none] [] h (zoI r) h' := by
  unfold zm92 at H
  refine zA_ldn rfl rfl rfl ?_
  refine zA_push rfl rfl zkk7 ?_
  refine zA_push rfl rfl zkk3 ?_
  rcases zb_e H with ⟨u90, h21, C, H⟩ | ⟨E, h21, C, H⟩
  · refine zA_callU (as := [zI x1, zI (0 : Int32), zI (3 : Int32)]) (st' := []) rfl rfl rfl rfl rfl (zmE131 _ _ _) rfl (zmS131 C) ?_
    refine zA_ldn rfl rfl rfl ?_
    refine zA_push rfl rfl zkk7 ?_
    refine zA_push rfl rfl zkk38 ?_
    rcases zb_e H with ⟨u89, h22, C, H⟩ | ⟨E, h22, C, H⟩
    · refine zA_callU (as := [zI x2, zI (0 : Int32), zI (199 : Int32)]) (st' := []) rfl rfl rfl rfl rfl (zmE131 _ _ _) rfl (zmS131 C) ?_
      refine zA_aldn rfl rfl rfl ?_
      obtain ⟨p23, i24, e25, c26, H⟩ := zob_e H
      refine zA_gf3 rfl rfl e25 c26 ?_
      refine zA_ldn rfl rfl rfl ?_
      obtain ⟨p27, i28, j29, v34, e30, c31, c32, e33, e35, H⟩ := zra_e H
      refine zA_aal rfl rfl e30 c31 c32 e33 e35 ?_
      obtain ⟨p36, i37, e38, c39, H⟩ := zob_e H
      refine zA_gf3 rfl rfl e38 c39 ?_
      obtain ⟨x40, e41, H⟩ := zlet_e H
      refine zA_astn2 rfl rfl e41 (zset1 (L' := [some (zrv x0), some (zI x1), some (zI x2), some (zrv x40), none]) (zcat_rv _) rfl (zpcV rfl rfl)) ?_
      refine zA_aldn rfl rfl rfl ?_
      refine zA_ldn rfl rfl rfl ?_
      obtain ⟨p42, i43, j44, v49, e45, c46, c47, e48, e50, H⟩ := zra_e H
      refine zA_aal rfl rfl e45 c46 c47 e48 e50 ?_
      refine zA_ast2 rfl rfl rfl (zset1 (L' := [some (zrv x0), some (zI x1), some (zI x2), some (zrv x40), some (zrv v49)]) (zcat_rv _) rfl (zpcV rfl (zcat_rv _))) ?_
      refine zA_ald rfl rfl rfl ?_
      rcases zite_e H with ⟨c51, H⟩ | ⟨c51, H⟩
      · refine zA_brF' (c := v49 = none) rfl rfl zIf_nonnull c51 ?_
        cases H
        exact zA_thr rfl rfl
      · refine zA_brT' (c := v49 = none) rfl rfl zIf_nonnull c51 ?_
        refine zA_tr (L := [some (zrv x0), none, some (zI x2), some (zrv x40), some (zrv v49)]) rfl rfl ?_
        refine zA_aldn rfl rfl rfl ?_
        refine zA_ldn rfl rfl rfl ?_
        refine zA_push rfl rfl zkk22 ?_
        obtain ⟨p52, i53, j54, e55, c56, c57, e58, H⟩ := zar_e H
        obtain ⟨h59, e60, H⟩ := zlet_e H
        refine zA_aasN rfl rfl e55 c56 c57 e58 e60 ?_
        refine zA_aldn rfl rfl rfl ?_
        refine zA_dup rfl rfl (zcat_rv _) ?_
        refine zA_gf0 rfl rfl (Or.inl rfl) e25 c26 ?_
        refine zA_push rfl rfl zkk5 ?_
        refine zA_st (st' := [zI ((zi h59 p23 i24 15) - (1 : Int32)), zrv x0]) rfl rfl rfl rfl ?_
        obtain ⟨h61, e62, H⟩ := zlet_e H
        refine zA_pf0 rfl rfl e25 c26 e62 ?_
        refine zA_ald rfl rfl rfl ?_
        refine zA_dup rfl rfl (zcat_rv _) ?_
        obtain ⟨p63, i64, e65, c66, H⟩ := zob_e H
        refine zA_gf0 rfl rfl (Or.inl rfl) e65 c66 ?_
        refine zA_push rfl rfl zkk5 ?_
        refine zA_st (st' := [zI ((zi h61 p63 i64 10) - (1 : Int32)), zrv v49]) rfl rfl rfl rfl ?_
        obtain ⟨h67, e68, H⟩ := zlet_e H
        refine zA_pf0 rfl rfl e65 c66 e68 ?_
        refine zA_ald rfl rfl rfl ?_
        refine zA_gf3 rfl rfl e65 c66 ?_
        refine zA_ldn rfl rfl rfl ?_
        rcases zb_e H with ⟨x70, h69, C, H⟩ | ⟨E, h69, C, H⟩
        · refine zA_callV (as := [zI x2]) (st' := [zrv (zr h67 p63 i64 11)]) rfl rfl rfl rfl rfl (zmE135 _) rfl (zmS135 C) ?_
          refine zA_dup2 rfl rfl rfl (zcat_rv _) ?_
          obtain ⟨p71, i72, j73, v78, e74, c75, c76, e77, e79, H⟩ := zri_e H
          refine zA_ial rfl rfl e74 c75 c76 e77 e79 ?_
          refine zA_push rfl rfl zkk5 ?_
          refine zA_st (st' := [zI (v78 - (1 : Int32)), zI x70, zrv (zr h67 p63 i64 11)]) rfl rfl rfl rfl ?_
          obtain ⟨p80, i81, j82, e83, c84, c85, e86, H⟩ := zar_e H
          obtain ⟨h87, e88, H⟩ := zlet_e H
          refine zA_ias rfl rfl e83 c84 c85 e86 e88 ?_
          refine zA_ald rfl rfl rfl ?_
          refine zA_gf0 rfl rfl (Or.inl rfl) e65 c66 ?_
          cases H
          exact zA_ret rfl rfl
        · cases H
          exact zA_callX (as := [zI x2]) (st' := [zrv (zr h67 p63 i64 11)]) rfl rfl rfl rfl (zmE135 _) rfl rfl rfl (zmS135 C)
    · cases H
      exact zA_callX (as := [zI x2, zI (0 : Int32), zI (199 : Int32)]) (st' := []) rfl rfl rfl rfl (zmE131 _ _ _) rfl rfl rfl (zmS131 C)
  · cases H
    exact zA_callX (as := [zI x1, zI (0 : Int32), zI (3 : Int32)]) (st' := []) rfl rfl rfl rfl (zmE131 _ _ _) rfl rfl rfl (zmS131 C)
theorem zmE92 (x0 : zq) (x1 : Int32) (x2 : Int32) : zpad (zPr.2.1 92).1 (zil [zrv x0, zI x1, zI x2]) = [some (zrv x0), some (zI x1), some (zI x2), none, none] := by
  simp only [zil_A, zil_I, zil_F, zil_D, zil_N]
  rfl
-- 132: ReleaseHouse.spotIn(II)LReleaseHouse$Spot;
def zm132 (x0 : zq) (x1 : Int32) (x2 : Int32) (h : zH) : zRs zq :=
  zb (zm131 x1 (0 : Int32) (3 : Int32) h) fun _ h21 =>
  zb (zm131 x2 (0 : Int32) (2 : Int32) h21) fun _ h22 =>
  zob 11 x0 fun p23 i24 =>
  zra (zr h22 p23 i24 6) x1 h22 fun v34 =>
  zob 8 v34 fun p36 i37 =>
  zra (zr h22 p36 i37 0) x2 h22 fun v47 =>
  some (.inl v47, h22)
theorem zmS132 {x0 : zq} {x1 : Int32} {x2 : Int32} {h : zH} {r : zq ⊕ Nat} {h' : zH} (H : zm132 x0 x1 x2 h = some (r, h')) : zAt 132 0 [some (zrv x0), some (zI x1), some (zI x2)] [] h (zoA r) h' := by
  unfold zm132 at H
  refine zA_ldn rfl rfl rfl ?_
  refine zA_push rfl rfl zkk7 ?_
  refine zA_push rfl rfl zkk3 ?_
  rcases zb_e H with ⟨u50, h21, C, H⟩ | ⟨E, h21, C, H⟩
  · refine zA_callU (as := [zI x1, zI (0 : Int32), zI (3 : Int32)]) (st' := []) rfl rfl rfl rfl rfl (zmE131 _ _ _) rfl (zmS131 C) ?_
    refine zA_ldn rfl rfl rfl ?_
    refine zA_push rfl rfl zkk7 ?_
    refine zA_push rfl rfl zkk15 ?_
    rcases zb_e H with ⟨u49, h22, C, H⟩ | ⟨E, h22, C, H⟩
    · refine zA_callU (as := [zI x2, zI (0 : Int32), zI (2 : Int32)]) (st' := []) rfl rfl rfl rfl rfl (zmE131 _ _ _) rfl (zmS131 C) ?_
      refine zA_aldn rfl rfl rfl ?_
      obtain ⟨p23, i24, e25, c26, H⟩ := zob_e H
      refine zA_gf3 rfl rfl e25 c26 ?_
      refine zA_ldn rfl rfl rfl ?_
      obtain ⟨p27, i28, j29, v34, e30, c31, c32, e33, e35, H⟩ := zra_e H
      refine zA_aal rfl rfl e30 c31 c32 e33 e35 ?_
      obtain ⟨p36, i37, e38, c39, H⟩ := zob_e H
      refine zA_gf3 rfl rfl e38 c39 ?_
      refine zA_ldn rfl rfl rfl ?_
      obtain ⟨p40, i41, j42, v47, e43, c44, c45, e46, e48, H⟩ := zra_e H
      refine zA_aal rfl rfl e43 c44 c45 e46 e48 ?_
      cases H
      exact zA_ret rfl (zret_A _)
    · cases H
      exact zA_callX (as := [zI x2, zI (0 : Int32), zI (2 : Int32)]) (st' := []) rfl rfl rfl rfl (zmE131 _ _ _) rfl rfl rfl (zmS131 C)
  · cases H
    exact zA_callX (as := [zI x1, zI (0 : Int32), zI (3 : Int32)]) (st' := []) rfl rfl rfl rfl (zmE131 _ _ _) rfl rfl rfl (zmS131 C)
theorem zmE132 (x0 : zq) (x1 : Int32) (x2 : Int32) : zpad (zPr.2.1 132).1 (zil [zrv x0, zI x1, zI x2]) = [some (zrv x0), some (zI x1), some (zI x2)] := by
  simp only [zil_A, zil_I, zil_F, zil_D, zil_N]
  rfl
-- 85: ReleaseHouse.stable(II)I
def zm85 (x0 : zq) (x1 : Int32) (x2 : Int32) (h : zH) : zRs Int32 :=
  zob 11 x0 fun p21 i22 =>
  zb (zm132 x0 x1 x2 h) fun x26 h25 =>
  zob 9 x26 fun p27 i28 =>
  zb (zm134 (zr h25 p27 i28 0) h25) fun x32 h31 =>
  some (.inl x32, h31)
theorem zmS85 {x0 : zq} {x1 : Int32} {x2 : Int32} {h : zH} {r : Int32 ⊕ Nat} {h' : zH} (H : zm85 x0 x1 x2 h = some (r, h')) : zAt 85 0 [some (zrv x0), some (zI x1), some (zI x2)] [] h (zoI r) h' := by
  unfold zm85 at H
  refine zA_aldn rfl rfl rfl ?_
  refine zA_ldn rfl rfl rfl ?_
  refine zA_ldn rfl rfl rfl ?_
  obtain ⟨p21, i22, e23, c24, H⟩ := zob_e H
  rcases zb_e H with ⟨x26, h25, C, H⟩ | ⟨E, h25, C, H⟩
  · refine zA_callV (as := [zrv x0, zI x1, zI x2]) (st' := []) rfl rfl rfl (zrcv_Q e23 c24) rfl (zmE132 _ _ _) rfl (zmS132 C) ?_
    obtain ⟨p27, i28, e29, c30, H⟩ := zob_e H
    refine zA_gf3 rfl rfl e29 c30 ?_
    rcases zb_e H with ⟨x32, h31, C, H⟩ | ⟨E, h31, C, H⟩
    · refine zA_callV (as := [zrv (zr h25 p27 i28 0)]) (st' := []) rfl rfl rfl rfl rfl (zmE134 _) rfl (zmS134 C) ?_
      cases H
      exact zA_ret rfl rfl
    · cases H
      exact zA_callX (as := [zrv (zr h25 p27 i28 0)]) (st' := []) rfl rfl rfl rfl (zmE134 _) rfl rfl rfl (zmS134 C)
  · cases H
    exact zA_callX (as := [zrv x0, zI x1, zI x2]) (st' := []) rfl rfl (zrcv_Q e23 c24) rfl (zmE132 _ _ _) rfl rfl rfl (zmS132 C)
theorem zmE85 (x0 : zq) (x1 : Int32) (x2 : Int32) : zpad (zPr.2.1 85).1 (zil [zrv x0, zI x1, zI x2]) = [some (zrv x0), some (zI x1), some (zI x2)] := by
  simp only [zil_A, zil_I, zil_F, zil_D, zil_N]
  rfl
-- 86: ReleaseHouse.candidate(II)I
def zm86 (x0 : zq) (x1 : Int32) (x2 : Int32) (h : zH) : zRs Int32 :=
  zob 11 x0 fun p21 i22 =>
  zb (zm132 x0 x1 x2 h) fun x26 h25 =>
  zob 9 x26 fun p27 i28 =>
  zb (zm134 (zr h25 p27 i28 1) h25) fun x32 h31 =>
  some (.inl x32, h31)
theorem zmS86 {x0 : zq} {x1 : Int32} {x2 : Int32} {h : zH} {r : Int32 ⊕ Nat} {h' : zH} (H : zm86 x0 x1 x2 h = some (r, h')) : zAt 86 0 [some (zrv x0), some (zI x1), some (zI x2)] [] h (zoI r) h' := by
  unfold zm86 at H
  refine zA_aldn rfl rfl rfl ?_
  refine zA_ldn rfl rfl rfl ?_
  refine zA_ldn rfl rfl rfl ?_
  obtain ⟨p21, i22, e23, c24, H⟩ := zob_e H
  rcases zb_e H with ⟨x26, h25, C, H⟩ | ⟨E, h25, C, H⟩
  · refine zA_callV (as := [zrv x0, zI x1, zI x2]) (st' := []) rfl rfl rfl (zrcv_Q e23 c24) rfl (zmE132 _ _ _) rfl (zmS132 C) ?_
    obtain ⟨p27, i28, e29, c30, H⟩ := zob_e H
    refine zA_gf3 rfl rfl e29 c30 ?_
    rcases zb_e H with ⟨x32, h31, C, H⟩ | ⟨E, h31, C, H⟩
    · refine zA_callV (as := [zrv (zr h25 p27 i28 1)]) (st' := []) rfl rfl rfl rfl rfl (zmE134 _) rfl (zmS134 C) ?_
      cases H
      exact zA_ret rfl rfl
    · cases H
      exact zA_callX (as := [zrv (zr h25 p27 i28 1)]) (st' := []) rfl rfl rfl rfl (zmE134 _) rfl rfl rfl (zmS134 C)
  · cases H
    exact zA_callX (as := [zrv x0, zI x1, zI x2]) (st' := []) rfl rfl (zrcv_Q e23 c24) rfl (zmE132 _ _ _) rfl rfl rfl (zmS132 C)
theorem zmE86 (x0 : zq) (x1 : Int32) (x2 : Int32) : zpad (zPr.2.1 86).1 (zil [zrv x0, zI x1, zI x2]) = [some (zrv x0), some (zI x1), some (zI x2)] := by
  simp only [zil_A, zil_I, zil_F, zil_D, zil_N]
  rfl
-- 31: ReleaseHouse$Spot.sampleOf(Z)LReleaseHouse$Sample;
def zm31 (x0 : zq) (x1 : Int32) (h : zH) : zRs zq :=
  if x1 = 0 then
    zob 9 x0 fun p22 i23 =>
    some (.inl (zr h p22 i23 6), h)
  else
    zob 9 x0 fun p26 i27 =>
    some (.inl (zr h p26 i27 5), h)
theorem zmS31 {x0 : zq} {x1 : Int32} {h : zH} {r : zq ⊕ Nat} {h' : zH} (H : zm31 x0 x1 h = some (r, h')) : zAt 31 0 [some (zrv x0), some (zI x1)] [] h (zoA r) h' := by
  unfold zm31 at H
  refine zA_ldn rfl rfl rfl ?_
  rcases zite_e H with ⟨c21, H⟩ | ⟨c21, H⟩
  · refine zA_brT (c := x1 = 0) rfl rfl rfl c21 ?_
    refine zA_tr (L := [some (zrv x0), none]) rfl rfl ?_
    refine zA_aldn rfl rfl rfl ?_
    obtain ⟨p22, i23, e24, c25, H⟩ := zob_e H
    refine zA_gf3 rfl rfl e24 c25 ?_
    refine zA_tr (L := [none, none]) rfl rfl ?_
    cases H
    exact zA_ret rfl (zret_A _)
  · refine zA_brF (c := x1 = 0) rfl rfl rfl c21 ?_
    refine zA_aldn rfl rfl rfl ?_
    obtain ⟨p26, i27, e28, c29, H⟩ := zob_e H
    refine zA_gf3 rfl rfl e28 c29 ?_
    refine zA_go rfl rfl ?_
    refine zA_tr (L := [none, none]) rfl rfl ?_
    cases H
    exact zA_ret rfl (zret_A _)
theorem zmE31 (x0 : zq) (x1 : Int32) : zpad (zPr.2.1 31).1 (zil [zrv x0, zI x1]) = [some (zrv x0), some (zI x1)] := by
  simp only [zil_A, zil_I, zil_F, zil_D, zil_N]
  rfl
def zm19_2 (k11 : zq → Int32 → Int32 → zH → zRs Unit) : Nat → zq → Int32 → Int32 → Int32 → zH → zRs Unit
  | 0, _, _, _, _, _ => none
  | n + 1, x0, x1, x2, x3, h =>
    if (16 : Int32) ≤ x3 then
      k11 x0 x1 x3 h
    else
      if (x2 >>> (x3 &&& 31)) = 0 then
        k11 x0 x1 x3 h
      else
        zlet (x3 + (1 : Int32)) fun x23 =>
        zm19_2 k11 n x0 x1 x2 x23 h
theorem zmS19_2 {k11 : zq → Int32 → Int32 → zH → zRs Unit} (hk11 : ∀ (x0 : zq) (x1 : Int32) (x3 : Int32) (h : zH) (r : Unit ⊕ Nat) (h' : zH), k11 x0 x1 x3 h = some (r, h') → zAt 19 11 [some (zrv x0), some (zI x1), none, some (zI x3)] [] h (zoU r) h') : ∀ (n : Nat) (x0 : zq) (x1 : Int32) (x2 : Int32) (x3 : Int32) (h : zH) (r : Unit ⊕ Nat) (h' : zH), zm19_2 k11 n x0 x1 x2 x3 h = some (r, h') → zAt 19 2 [some (zrv x0), some (zI x1), some (zI x2), some (zI x3)] [] h (zoU r) h' := by
  intro n
  induction n with
  | zero => intro x0 x1 x2 x3 h r h' H; cases H
  | succ n ih =>
    intro x0 x1 x2 x3 h r h' H
    unfold zm19_2 at H
    refine zA_ldn rfl rfl rfl ?_
    refine zA_push rfl rfl zkk29 ?_
    rcases zite_e H with ⟨c21, H⟩ | ⟨c21, H⟩
    · refine zA_brT (c := (16 : Int32) ≤ x3) rfl rfl rfl c21 ?_
      exact zA_tr (L := [some (zrv x0), some (zI x1), none, some (zI x3)]) rfl rfl (hk11 _ _ _ _ _ _ H)
    · refine zA_brF (c := (16 : Int32) ≤ x3) rfl rfl rfl c21 ?_
      refine zA_ldn rfl rfl rfl ?_
      refine zA_ldn rfl rfl rfl ?_
      refine zA_st (st' := [zI (x2 >>> (x3 &&& 31))]) rfl rfl rfl rfl ?_
      rcases zite_e H with ⟨c22, H⟩ | ⟨c22, H⟩
      · refine zA_brT (c := (x2 >>> (x3 &&& 31)) = 0) rfl rfl rfl c22 ?_
        exact zA_tr (L := [some (zrv x0), some (zI x1), none, some (zI x3)]) rfl rfl (hk11 _ _ _ _ _ _ H)
      · refine zA_brF (c := (x2 >>> (x3 &&& 31)) = 0) rfl rfl rfl c22 ?_
        obtain ⟨x23, e24, H⟩ := zlet_e H
        refine zA_inc rfl rfl rfl (e24.trans (congrArg (_ + ·) zkk8)) (zset1 (L' := [some (zrv x0), some (zI x1), some (zI x2), some (zI x23)]) rfl rfl (zpcV rfl rfl)) ?_
        refine zA_go rfl rfl ?_
        exact zA_tr (L := [some (zrv x0), some (zI x1), some (zI x2), some (zI x23)]) rfl rfl (ih _ _ _ _ _ _ _ H)
def zm19_54 (x0 : zq) (x3 : Int32) (s0 : zq) (s1 : Int32) (s2 : Int32) (h : zH) : zRs Unit :=
  zob 7 s0 fun p21 i22 =>
  zlet (zsi h p21 i22 2 (s1 + s2)) fun h25 =>
  zob 7 x0 fun p27 i28 =>
  zri (zr h25 p27 i28 3) x3 h25 fun v38 =>
  zar 1 (zr h25 p27 i28 3) x3 h25 fun p40 i41 j42 =>
  zlet (zsi h25 p40 i41 j42 (v38 + (1 : Int32))) fun h47 =>
  some (.inl (), h47)
theorem zmS19_54 : ∀ (x0 : zq) (x3 : Int32) (s0 : zq) (s1 : Int32) (s2 : Int32) (h : zH) (r : Unit ⊕ Nat) (h' : zH), zm19_54 x0 x3 s0 s1 s2 h = some (r, h') → zAt 19 54 [some (zrv x0), none, none, some (zI x3)] [zI s2, zI s1, zrv s0] h (zoU r) h' := by
  intro x0 x3 s0 s1 s2 h r h' H
  unfold zm19_54 at H
  refine zA_st (st' := [zI (s1 + s2), zrv s0]) rfl rfl rfl rfl ?_
  obtain ⟨p21, i22, e23, c24, H⟩ := zob_e H
  obtain ⟨h25, e26, H⟩ := zlet_e H
  refine zA_pf0 rfl rfl e23 c24 e26 ?_
  refine zA_aldn rfl rfl rfl ?_
  obtain ⟨p27, i28, e29, c30, H⟩ := zob_e H
  refine zA_gf3 rfl rfl e29 c30 ?_
  refine zA_ldn rfl rfl rfl ?_
  refine zA_dup2 rfl rfl rfl (zcat_rv _) ?_
  obtain ⟨p31, i32, j33, v38, e34, c35, c36, e37, e39, H⟩ := zri_e H
  refine zA_ial rfl rfl e34 c35 c36 e37 e39 ?_
  refine zA_push rfl rfl zkk5 ?_
  refine zA_st (st' := [zI (v38 + (1 : Int32)), zI x3, zrv (zr h25 p27 i28 3)]) rfl rfl rfl rfl ?_
  obtain ⟨p40, i41, j42, e43, c44, c45, e46, H⟩ := zar_e H
  obtain ⟨h47, e48, H⟩ := zlet_e H
  refine zA_ias rfl rfl e43 c44 c45 e46 e48 ?_
  cases H
  exact zA_ret rfl rfl
def zm19_38 (x0 : zq) (x1 : Int32) (x3 : Int32) (s0 : zq) (s1 : Int32) (s2 : Int32) (s3 : Int32) (h : zH) : zRs Unit :=
  zar 1 s0 s1 h fun p21 i22 j23 =>
  zlet (zsi h p21 i22 j23 (s2 + s3)) fun h28 =>
  zob 7 x0 fun p30 i31 =>
  zlet (zsi h28 p30 i31 1 ((zi h28 p30 i31 1) + (1 : Int32))) fun h34 =>
  if x1 = 0 then
    zm19_54 x0 x3 x0 (zi h34 p30 i31 2) (0 : Int32) h34
  else
    zm19_54 x0 x3 x0 (zi h34 p30 i31 2) (1 : Int32) h34
theorem zmS19_38 : ∀ (x0 : zq) (x1 : Int32) (x3 : Int32) (s0 : zq) (s1 : Int32) (s2 : Int32) (s3 : Int32) (h : zH) (r : Unit ⊕ Nat) (h' : zH), zm19_38 x0 x1 x3 s0 s1 s2 s3 h = some (r, h') → zAt 19 38 [some (zrv x0), some (zI x1), none, some (zI x3)] [zI s3, zI s2, zI s1, zrv s0] h (zoU r) h' := by
  intro x0 x1 x3 s0 s1 s2 s3 h r h' H
  unfold zm19_38 at H
  refine zA_st (st' := [zI (s2 + s3), zI s1, zrv s0]) rfl rfl rfl rfl ?_
  obtain ⟨p21, i22, j23, e24, c25, c26, e27, H⟩ := zar_e H
  obtain ⟨h28, e29, H⟩ := zlet_e H
  refine zA_ias rfl rfl e24 c25 c26 e27 e29 ?_
  refine zA_aldn rfl rfl rfl ?_
  refine zA_dup rfl rfl (zcat_rv _) ?_
  obtain ⟨p30, i31, e32, c33, H⟩ := zob_e H
  refine zA_gf0 rfl rfl (Or.inl rfl) e32 c33 ?_
  refine zA_push rfl rfl zkk5 ?_
  refine zA_st (st' := [zI ((zi h28 p30 i31 1) + (1 : Int32)), zrv x0]) rfl rfl rfl rfl ?_
  obtain ⟨h34, e35, H⟩ := zlet_e H
  refine zA_pf0 rfl rfl e32 c33 e35 ?_
  refine zA_aldn rfl rfl rfl ?_
  refine zA_dup rfl rfl (zcat_rv _) ?_
  refine zA_gf0 rfl rfl (Or.inl rfl) e32 c33 ?_
  refine zA_ldn rfl rfl rfl ?_
  rcases zite_e H with ⟨c36, H⟩ | ⟨c36, H⟩
  · refine zA_brT (c := x1 = 0) rfl rfl rfl c36 ?_
    refine zA_tr (L := [some (zrv x0), none, none, some (zI x3)]) rfl rfl ?_
    refine zA_push rfl rfl zkk7 ?_
    exact zA_tr (L := [some (zrv x0), none, none, some (zI x3)]) rfl rfl (zmS19_54 _ _ _ _ _ _ _ _ H)
  · refine zA_brF (c := x1 = 0) rfl rfl rfl c36 ?_
    refine zA_push rfl rfl zkk5 ?_
    refine zA_go rfl rfl ?_
    exact zA_tr (L := [some (zrv x0), none, none, some (zI x3)]) rfl rfl (zmS19_54 _ _ _ _ _ _ _ _ H)
def zm19_26 (x0 : zq) (x1 : Int32) (x3 : Int32) (h : zH) : zRs Unit :=
  zob 7 x0 fun p21 i22 =>
  if x1 = 0 then
    zm19_38 x0 x1 x3 (zr h p21 i22 0) (zi h p21 i22 1) (x3 * (2 : Int32)) (0 : Int32) h
  else
    zm19_38 x0 x1 x3 (zr h p21 i22 0) (zi h p21 i22 1) (x3 * (2 : Int32)) (1 : Int32) h
theorem zmS19_26 : ∀ (x0 : zq) (x1 : Int32) (x3 : Int32) (h : zH) (r : Unit ⊕ Nat) (h' : zH), zm19_26 x0 x1 x3 h = some (r, h') → zAt 19 26 [some (zrv x0), some (zI x1), none, some (zI x3)] [] h (zoU r) h' := by
  intro x0 x1 x3 h r h' H
  unfold zm19_26 at H
  refine zA_aldn rfl rfl rfl ?_
  obtain ⟨p21, i22, e23, c24, H⟩ := zob_e H
  refine zA_gf3 rfl rfl e23 c24 ?_
  refine zA_aldn rfl rfl rfl ?_
  refine zA_gf0 rfl rfl (Or.inl rfl) e23 c24 ?_
  refine zA_ldn rfl rfl rfl ?_
  refine zA_push rfl rfl zkk15 ?_
  refine zA_st (st' := [zI (x3 * (2 : Int32)), zI (zi h p21 i22 1), zrv (zr h p21 i22 0)]) rfl rfl rfl rfl ?_
  refine zA_ldn rfl rfl rfl ?_
  rcases zite_e H with ⟨c25, H⟩ | ⟨c25, H⟩
  · refine zA_brT (c := x1 = 0) rfl rfl rfl c25 ?_
    refine zA_push rfl rfl zkk7 ?_
    exact zA_tr (L := [some (zrv x0), some (zI x1), none, some (zI x3)]) rfl rfl (zmS19_38 _ _ _ _ _ _ _ _ _ _ H)
  · refine zA_brF (c := x1 = 0) rfl rfl rfl c25 ?_
    refine zA_push rfl rfl zkk5 ?_
    refine zA_go rfl rfl ?_
    exact zA_tr (L := [some (zrv x0), some (zI x1), none, some (zI x3)]) rfl rfl (zmS19_38 _ _ _ _ _ _ _ _ _ _ H)
def zm19_11 (x0 : zq) (x1 : Int32) (x3 : Int32) (h : zH) : zRs Unit :=
  zob 7 x0 fun p21 i22 =>
  zal (zr h p21 i22 0) fun p25 i26 =>
  if (zi h p21 i22 1) < (nI (zln h p25 i26)) then
    zm19_26 x0 x1 x3 h
  else
    znn (zr h p21 i22 0) fun p30 i31 =>
    zif ((ztg p30 == 1) = true) <|
    if ((zi h p21 i22 1) * (2 : Int32)) < 0 ∨ 100000 < ((zi h p21 i22 1) * (2 : Int32)).toNatClampNeg ∨ ((zi h p21 i22 1) * (2 : Int32)).toNatClampNeg ≤ zln h p30 i31 then none else
    zlet (znwi h 32 ((zi h p21 i22 1) * (2 : Int32)).toNatClampNeg ((zi h p21 i22 1) * (2 : Int32)).toNatClampNeg (fun j => if j < zln h p30 i31 then zi h p30 i31 j else 0)) fun h35 =>
    zlet (zsr h35 p21 i22 0 (some (32, zct h 32))) fun h37 =>
    zm19_26 x0 x1 x3 h37
theorem zmS19_11 : ∀ (x0 : zq) (x1 : Int32) (x3 : Int32) (h : zH) (r : Unit ⊕ Nat) (h' : zH), zm19_11 x0 x1 x3 h = some (r, h') → zAt 19 11 [some (zrv x0), some (zI x1), none, some (zI x3)] [] h (zoU r) h' := by
  intro x0 x1 x3 h r h' H
  unfold zm19_11 at H
  refine zA_aldn rfl rfl rfl ?_
  obtain ⟨p21, i22, e23, c24, H⟩ := zob_e H
  refine zA_gf0 rfl rfl (Or.inl rfl) e23 c24 ?_
  refine zA_aldn rfl rfl rfl ?_
  refine zA_gf3 rfl rfl e23 c24 ?_
  obtain ⟨p25, i26, e27, c28, H⟩ := zal_e H
  refine zA_len rfl rfl e27 c28 ?_
  rcases zite_e H with ⟨c29, H⟩ | ⟨c29, H⟩
  · refine zA_brT (c := (zi h p21 i22 1) < (nI (zln h p25 i26))) rfl rfl rfl c29 ?_
    exact zA_tr (L := [some (zrv x0), some (zI x1), none, some (zI x3)]) rfl rfl (zmS19_26 _ _ _ _ _ _ H)
  · refine zA_brF (c := (zi h p21 i22 1) < (nI (zln h p25 i26))) rfl rfl rfl c29 ?_
    refine zA_aldn rfl rfl rfl ?_
    refine zA_aldn rfl rfl rfl ?_
    refine zA_gf3 rfl rfl e23 c24 ?_
    refine zA_aldn rfl rfl rfl ?_
    refine zA_gf0 rfl rfl (Or.inl rfl) e23 c24 ?_
    refine zA_push rfl rfl zkk15 ?_
    refine zA_st (st' := [zI ((zi h p21 i22 1) * (2 : Int32)), zrv (zr h p21 i22 0), zrv x0]) rfl rfl rfl rfl ?_
    obtain ⟨p30, i31, e32, H⟩ := znn_e H
    obtain ⟨c33, H⟩ := zif_e H
    rcases zite_e H with ⟨_, H⟩ | ⟨c34, H⟩
    · cases H
    obtain ⟨h35, e36, H⟩ := zlet_e H
    refine zA_l5 rfl rfl rfl e32 c33 c34 e36 ?_
    obtain ⟨h37, e38, H⟩ := zlet_e H
    refine zA_pf3 rfl rfl e23 c24 e38 ?_
    exact zA_tr (L := [some (zrv x0), some (zI x1), none, some (zI x3)]) rfl rfl (zmS19_26 _ _ _ _ _ _ H)
-- 19: ReleaseHouse$Sample.add(ZI)V
def zm19 (x0 : zq) (x1 : Int32) (x2 : Int32) (h : zH) : zRs Unit :=
  zm19_2 (zm19_11) zN0 x0 x1 x2 (0 : Int32) h
theorem zmS19 {x0 : zq} {x1 : Int32} {x2 : Int32} {h : zH} {r : Unit ⊕ Nat} {h' : zH} (H : zm19 x0 x1 x2 h = some (r, h')) : zAt 19 0 [some (zrv x0), some (zI x1), some (zI x2), none] [] h (zoU r) h' := by
  unfold zm19 at H
  refine zA_push rfl rfl zkk7 ?_
  refine zA_istn2 rfl rfl rfl (zset1 (L' := [some (zrv x0), some (zI x1), some (zI x2), some (zI (0 : Int32))]) rfl rfl (zpcV rfl rfl)) ?_
  exact zA_tr (L := [some (zrv x0), some (zI x1), some (zI x2), some (zI (0 : Int32))]) rfl rfl (zmS19_2 (zmS19_11) zN0 _ _ _ _ _ _ _ H)
theorem zmE19 (x0 : zq) (x1 : Int32) (x2 : Int32) : zpad (zPr.2.1 19).1 (zil [zrv x0, zI x1, zI x2]) = [some (zrv x0), some (zI x1), some (zI x2), none] := by
  simp only [zil_A, zil_I, zil_F, zil_D, zil_N]
  rfl
-- 20: ReleaseHouse$Sample.isBad(I)Z
def zm20 (x0 : zq) (x1 : Int32) (h : zH) : zRs Int32 :=
  if x1 < 0 then
    some (.inl (0 : Int32), h)
  else
    zob 7 x0 fun p22 i23 =>
    if (zi h p22 i23 1) ≤ x1 then
      some (.inl (0 : Int32), h)
    else
      zri (zr h p22 i23 0) x1 h fun v34 =>
      if (v34 &&& (1 : Int32)) = (1 : Int32) then
        some (.inl (1 : Int32), h)
      else
        some (.inl (0 : Int32), h)
theorem zmS20 {x0 : zq} {x1 : Int32} {h : zH} {r : Int32 ⊕ Nat} {h' : zH} (H : zm20 x0 x1 h = some (r, h')) : zAt 20 0 [some (zrv x0), some (zI x1)] [] h (zoI r) h' := by
  unfold zm20 at H
  refine zA_ldn rfl rfl rfl ?_
  rcases zite_e H with ⟨c21, H⟩ | ⟨c21, H⟩
  · refine zA_brT (c := x1 < 0) rfl rfl rfl c21 ?_
    refine zA_tr (L := [none, none]) rfl rfl ?_
    refine zA_push rfl rfl zkk7 ?_
    cases H
    exact zA_ret rfl (zret_Z (by decide))
  · refine zA_brF (c := x1 < 0) rfl rfl rfl c21 ?_
    refine zA_ldn rfl rfl rfl ?_
    refine zA_aldn rfl rfl rfl ?_
    obtain ⟨p22, i23, e24, c25, H⟩ := zob_e H
    refine zA_gf0 rfl rfl (Or.inl rfl) e24 c25 ?_
    rcases zite_e H with ⟨c26, H⟩ | ⟨c26, H⟩
    · refine zA_brT (c := (zi h p22 i23 1) ≤ x1) rfl rfl rfl c26 ?_
      refine zA_tr (L := [none, none]) rfl rfl ?_
      refine zA_push rfl rfl zkk7 ?_
      cases H
      exact zA_ret rfl (zret_Z (by decide))
    · refine zA_brF (c := (zi h p22 i23 1) ≤ x1) rfl rfl rfl c26 ?_
      refine zA_aldn rfl rfl rfl ?_
      refine zA_gf3 rfl rfl e24 c25 ?_
      refine zA_ldn rfl rfl rfl ?_
      obtain ⟨p27, i28, j29, v34, e30, c31, c32, e33, e35, H⟩ := zri_e H
      refine zA_ial rfl rfl e30 c31 c32 e33 e35 ?_
      refine zA_push rfl rfl zkk5 ?_
      refine zA_st (st' := [zI (v34 &&& (1 : Int32))]) rfl rfl rfl rfl ?_
      refine zA_push rfl rfl zkk5 ?_
      rcases zite_e H with ⟨c36, H⟩ | ⟨c36, H⟩
      · refine zA_brF' (c := (v34 &&& (1 : Int32)) = (1 : Int32)) rfl rfl rfl c36 ?_
        refine zA_push rfl rfl zkk5 ?_
        refine zA_go rfl rfl ?_
        refine zA_tr (L := [none, none]) rfl rfl ?_
        cases H
        exact zA_ret rfl (zret_Z (by decide))
      · refine zA_brT' (c := (v34 &&& (1 : Int32)) = (1 : Int32)) rfl rfl rfl c36 ?_
        refine zA_tr (L := [none, none]) rfl rfl ?_
        refine zA_push rfl rfl zkk7 ?_
        cases H
        exact zA_ret rfl (zret_Z (by decide))
theorem zmE20 (x0 : zq) (x1 : Int32) : zpad (zPr.2.1 20).1 (zil [zrv x0, zI x1]) = [some (zrv x0), some (zI x1)] := by
  simp only [zil_A, zil_I, zil_F, zil_D, zil_N]
  rfl
def zm33_15 (x1 : UInt64) (h : zH) : zRs UInt64 :=
  some (.inl x1, h)
theorem zmS33_15 : ∀ (x1 : UInt64) (h : zH) (r : UInt64 ⊕ Nat) (h' : zH), zm33_15 x1 h = some (r, h') → zAt 33 15 [none, some (zD x1), none, none, none] [] h (zoD r) h' := by
  intro x1 h r h' H
  unfold zm33_15 at H
  refine zA_dldn rfl rfl rfl ?_
  cases H
  exact zA_ret rfl rfl
-- 33: ReleaseHouse$Spot.capitalBehindPair(DI)D
def zm33 (x0 : zq) (x1 : UInt64) (x3 : Int32) (h : zH) : zRs UInt64 :=
  zob 9 x0 fun p21 i22 =>
  zob 7 (zr h p21 i22 5) fun p25 i26 =>
  zb (zm20 (zr h p21 i22 5) x3 h) fun x30 h29 =>
  if 0 ≤ (Op.cmpValue (FP.dcmp x1 (4626322717216342016 : UInt64)) .l) then
    zm33_15 x1 h29
  else
    zob 7 (zr h29 p21 i22 6) fun p32 i33 =>
    zb (zm20 (zr h29 p21 i22 6) x3 h29) fun x37 h36 =>
    if x30 = x37 then
      zm33_15 x1 h36
    else
      if x30 = 0 then
        zif (FP.dmul x1 (4602678819172646912 : UInt64) &&& 0x7fffffffffffffff ≤ 0x7ff0000000000000) <|
        some (.inl (FP.dmul x1 (4602678819172646912 : UInt64)), h36)
      else
        zif (FP.dmul x1 (4609434218613702656 : UInt64) &&& 0x7fffffffffffffff ≤ 0x7ff0000000000000) <|
        some (.inl (FP.dmul x1 (4609434218613702656 : UInt64)), h36)
theorem zmS33 {x0 : zq} {x1 : UInt64} {x3 : Int32} {h : zH} {r : UInt64 ⊕ Nat} {h' : zH} (H : zm33 x0 x1 x3 h = some (r, h')) : zAt 33 0 [some (zrv x0), some (zD x1), none, some (zI x3), none] [] h (zoD r) h' := by
  unfold zm33 at H
  refine zA_aldn rfl rfl rfl ?_
  obtain ⟨p21, i22, e23, c24, H⟩ := zob_e H
  refine zA_gf3 rfl rfl e23 c24 ?_
  refine zA_ldn rfl rfl rfl ?_
  obtain ⟨p25, i26, e27, c28, H⟩ := zob_e H
  rcases zb_e H with ⟨x30, h29, C, H⟩ | ⟨E, h29, C, H⟩
  · refine zA_callV (as := [zrv (zr h p21 i22 5), zI x3]) (st' := []) rfl rfl rfl (zrcv_Q e27 c28) rfl (zmE20 _ _) rfl (zmS20 C) ?_
    refine zA_ist2 rfl rfl rfl (zset1 (L' := [some (zrv x0), some (zD x1), none, some (zI x3), some (zI x30)]) rfl rfl (zpcV rfl rfl)) ?_
    refine zA_dldn rfl rfl rfl ?_
    refine zA_push rfl rfl zkk32 ?_
    refine zA_st (st' := [zI (Op.cmpValue (FP.dcmp x1 (4626322717216342016 : UInt64)) .l)]) rfl rfl rfl rfl ?_
    rcases zite_e H with ⟨c31, H⟩ | ⟨c31, H⟩
    · refine zA_brT (c := 0 ≤ (Op.cmpValue (FP.dcmp x1 (4626322717216342016 : UInt64)) .l)) rfl rfl rfl c31 ?_
      exact zA_tr (L := [none, some (zD x1), none, none, none]) rfl rfl (zmS33_15 _ _ _ _ H)
    · refine zA_brF (c := 0 ≤ (Op.cmpValue (FP.dcmp x1 (4626322717216342016 : UInt64)) .l)) rfl rfl rfl c31 ?_
      refine zA_ld rfl rfl rfl ?_
      refine zA_aldn rfl rfl rfl ?_
      refine zA_gf3 rfl rfl e23 c24 ?_
      refine zA_ldn rfl rfl rfl ?_
      obtain ⟨p32, i33, e34, c35, H⟩ := zob_e H
      rcases zb_e H with ⟨x37, h36, C, H⟩ | ⟨E, h36, C, H⟩
      · refine zA_callV (as := [zrv (zr h29 p21 i22 6), zI x3]) (st' := [zI x30]) rfl rfl rfl (zrcv_Q e34 c35) rfl (zmE20 _ _) rfl (zmS20 C) ?_
        rcases zite_e H with ⟨c38, H⟩ | ⟨c38, H⟩
        · refine zA_brF' (c := x30 = x37) rfl rfl rfl c38 ?_
          exact zA_tr (L := [none, some (zD x1), none, none, none]) rfl rfl (zmS33_15 _ _ _ _ H)
        · refine zA_brT' (c := x30 = x37) rfl rfl rfl c38 ?_
          refine zA_tr (L := [none, some (zD x1), none, none, some (zI x30)]) rfl rfl ?_
          refine zA_ld rfl rfl rfl ?_
          rcases zite_e H with ⟨c39, H⟩ | ⟨c39, H⟩
          · refine zA_brT (c := x30 = 0) rfl rfl rfl c39 ?_
            refine zA_tr (L := [none, some (zD x1), none, none, none]) rfl rfl ?_
            refine zA_dldn rfl rfl rfl ?_
            refine zA_push rfl rfl zkk40 ?_
            obtain ⟨c40, H⟩ := zif_e H
            refine zA_dmul rfl rfl c40 ?_
            refine zA_tr (L := [none, none, none, none, none]) rfl rfl ?_
            cases H
            exact zA_ret rfl rfl
          · refine zA_brF (c := x30 = 0) rfl rfl rfl c39 ?_
            refine zA_dldn rfl rfl rfl ?_
            refine zA_push rfl rfl zkk41 ?_
            obtain ⟨c41, H⟩ := zif_e H
            refine zA_dmul rfl rfl c41 ?_
            refine zA_go rfl rfl ?_
            refine zA_tr (L := [none, none, none, none, none]) rfl rfl ?_
            cases H
            exact zA_ret rfl rfl
      · cases H
        exact zA_callX (as := [zrv (zr h29 p21 i22 6), zI x3]) (st' := [zI x30]) rfl rfl (zrcv_Q e34 c35) rfl (zmE20 _ _) rfl rfl rfl (zmS20 C)
  · cases H
    exact zA_callX (as := [zrv (zr h p21 i22 5), zI x3]) (st' := []) rfl rfl (zrcv_Q e27 c28) rfl (zmE20 _ _) rfl rfl rfl (zmS20 C)
theorem zmE33 (x0 : zq) (x1 : UInt64) (x3 : Int32) : zpad (zPr.2.1 33).1 (zil [zrv x0, zD x1, zI x3]) = [some (zrv x0), some (zD x1), none, some (zI x3), none] := by
  simp only [zil_A, zil_I, zil_F, zil_D, zil_N]
  rfl
def zm32_29 (x4 : zq) (h : zH) : zRs Int32 :=
  zob 7 x4 fun p21 i22 =>
  some (.inl (zi h p21 i22 1), h)
theorem zmS32_29 : ∀ (x4 : zq) (h : zH) (r : Int32 ⊕ Nat) (h' : zH), zm32_29 x4 h = some (r, h') → zAt 32 29 [none, none, none, none, some (zrv x4)] [] h (zoI r) h' := by
  intro x4 h r h' H
  unfold zm32_29 at H
  refine zA_ald rfl rfl rfl ?_
  obtain ⟨p21, i22, e23, c24, H⟩ := zob_e H
  refine zA_gf0 rfl rfl (Or.inl rfl) e23 c24 ?_
  cases H
  exact zA_ret rfl rfl
def zm32_16 (x0 : zq) (x4 : zq) (s0 : Int32) (s1 : zq) (s2 : Int32) (h : zH) : zRs Int32 :=
  zob 9 s1 fun p21 i22 =>
  zb (zm31 s1 s2 h) fun x26 h25 =>
  zob 7 x26 fun p27 i28 =>
  if (zi h25 p27 i28 1) < s0 then
    zm32_29 x4 h25
  else
    zob 9 x0 fun p32 i33 =>
    zob 7 x4 fun p36 i37 =>
    zb (zm33 x0 (zd h25 p32 i33 4) ((zi h25 p36 i37 1) - (1 : Int32)) h25) fun x41 h40 =>
    zlet (zsd h40 p32 i33 4 x41) fun h42 =>
    zm32_29 x4 h42
theorem zmS32_16 : ∀ (x0 : zq) (x4 : zq) (s0 : Int32) (s1 : zq) (s2 : Int32) (h : zH) (r : Int32 ⊕ Nat) (h' : zH), zm32_16 x0 x4 s0 s1 s2 h = some (r, h') → zAt 32 16 [some (zrv x0), none, none, none, some (zrv x4)] [zI s2, zrv s1, zI s0] h (zoI r) h' := by
  intro x0 x4 s0 s1 s2 h r h' H
  unfold zm32_16 at H
  obtain ⟨p21, i22, e23, c24, H⟩ := zob_e H
  rcases zb_e H with ⟨x26, h25, C, H⟩ | ⟨E, h25, C, H⟩
  · refine zA_callV (as := [zrv s1, zI s2]) (st' := [zI s0]) rfl rfl rfl (zrcv_Q e23 c24) rfl (zmE31 _ _) rfl (zmS31 C) ?_
    obtain ⟨p27, i28, e29, c30, H⟩ := zob_e H
    refine zA_gf0 rfl rfl (Or.inl rfl) e29 c30 ?_
    rcases zite_e H with ⟨c31, H⟩ | ⟨c31, H⟩
    · refine zA_brT (c := (zi h25 p27 i28 1) < s0) rfl rfl rfl c31 ?_
      exact zA_tr (L := [none, none, none, none, some (zrv x4)]) rfl rfl (zmS32_29 _ _ _ _ H)
    · refine zA_brF (c := (zi h25 p27 i28 1) < s0) rfl rfl rfl c31 ?_
      refine zA_aldn rfl rfl rfl ?_
      refine zA_aldn rfl rfl rfl ?_
      refine zA_aldn rfl rfl rfl ?_
      obtain ⟨p32, i33, e34, c35, H⟩ := zob_e H
      refine zA_gf2 rfl rfl e34 c35 ?_
      refine zA_ald rfl rfl rfl ?_
      obtain ⟨p36, i37, e38, c39, H⟩ := zob_e H
      refine zA_gf0 rfl rfl (Or.inl rfl) e38 c39 ?_
      refine zA_push rfl rfl zkk5 ?_
      refine zA_st (st' := [zI ((zi h25 p36 i37 1) - (1 : Int32)), zD (zd h25 p32 i33 4), zrv x0, zrv x0]) rfl rfl rfl rfl ?_
      rcases zb_e H with ⟨x41, h40, C, H⟩ | ⟨E, h40, C, H⟩
      · refine zA_callV (as := [zrv x0, zD (zd h25 p32 i33 4), zI ((zi h25 p36 i37 1) - (1 : Int32))]) (st' := [zrv x0]) rfl rfl rfl (zrcv_Q e34 c35) rfl (zmE33 _ _ _) rfl (zmS33 C) ?_
        obtain ⟨h42, e43, H⟩ := zlet_e H
        refine zA_pf2 rfl rfl e34 c35 e43 ?_
        exact zA_tr (L := [none, none, none, none, some (zrv x4)]) rfl rfl (zmS32_29 _ _ _ _ H)
      · cases H
        exact zA_callX (as := [zrv x0, zD (zd h25 p32 i33 4), zI ((zi h25 p36 i37 1) - (1 : Int32))]) (st' := [zrv x0]) rfl rfl (zrcv_Q e34 c35) rfl (zmE33 _ _ _) rfl rfl rfl (zmS33 C)
  · cases H
    exact zA_callX (as := [zrv s1, zI s2]) (st' := [zI s0]) rfl rfl (zrcv_Q e23 c24) rfl (zmE31 _ _) rfl rfl rfl (zmS31 C)
-- 32: ReleaseHouse$Spot.takeMeasure(ZZI)I
def zm32 (x0 : zq) (x1 : Int32) (x2 : Int32) (x3 : Int32) (h : zH) : zRs Int32 :=
  zob 9 x0 fun p21 i22 =>
  zb (zm31 x0 x1 h) fun x26 h25 =>
  zob 7 x26 fun p27 i28 =>
  zb (zm19 x26 x2 x3 h25) fun _ h31 =>
  if x1 = 0 then
    zm32_16 x0 x26 (zi h31 p27 i28 1) x0 (1 : Int32) h31
  else
    zm32_16 x0 x26 (zi h31 p27 i28 1) x0 (0 : Int32) h31
theorem zmS32 {x0 : zq} {x1 : Int32} {x2 : Int32} {x3 : Int32} {h : zH} {r : Int32 ⊕ Nat} {h' : zH} (H : zm32 x0 x1 x2 x3 h = some (r, h')) : zAt 32 0 [some (zrv x0), some (zI x1), some (zI x2), some (zI x3), none] [] h (zoI r) h' := by
  unfold zm32 at H
  refine zA_aldn rfl rfl rfl ?_
  refine zA_ldn rfl rfl rfl ?_
  obtain ⟨p21, i22, e23, c24, H⟩ := zob_e H
  rcases zb_e H with ⟨x26, h25, C, H⟩ | ⟨E, h25, C, H⟩
  · refine zA_callV (as := [zrv x0, zI x1]) (st' := []) rfl rfl rfl (zrcv_Q e23 c24) rfl (zmE31 _ _) rfl (zmS31 C) ?_
    refine zA_ast2 rfl rfl rfl (zset1 (L' := [some (zrv x0), some (zI x1), some (zI x2), some (zI x3), some (zrv x26)]) (zcat_rv _) rfl (zpcV rfl rfl)) ?_
    refine zA_ald rfl rfl rfl ?_
    refine zA_ldn rfl rfl rfl ?_
    refine zA_ldn rfl rfl rfl ?_
    obtain ⟨p27, i28, e29, c30, H⟩ := zob_e H
    rcases zb_e H with ⟨u33, h31, C, H⟩ | ⟨E, h31, C, H⟩
    · refine zA_callU (as := [zrv x26, zI x2, zI x3]) (st' := []) rfl rfl rfl (zrcv_Q e29 c30) rfl (zmE19 _ _ _) rfl (zmS19 C) ?_
      refine zA_ald rfl rfl rfl ?_
      refine zA_gf0 rfl rfl (Or.inl rfl) e29 c30 ?_
      refine zA_aldn rfl rfl rfl ?_
      refine zA_ldn rfl rfl rfl ?_
      rcases zite_e H with ⟨c32, H⟩ | ⟨c32, H⟩
      · refine zA_brF' (c := x1 = 0) rfl rfl rfl c32 ?_
        refine zA_push rfl rfl zkk5 ?_
        refine zA_go rfl rfl ?_
        exact zA_tr (L := [some (zrv x0), none, none, none, some (zrv x26)]) rfl rfl (zmS32_16 _ _ _ _ _ _ _ _ H)
      · refine zA_brT' (c := x1 = 0) rfl rfl rfl c32 ?_
        refine zA_tr (L := [some (zrv x0), none, none, none, some (zrv x26)]) rfl rfl ?_
        refine zA_push rfl rfl zkk7 ?_
        exact zA_tr (L := [some (zrv x0), none, none, none, some (zrv x26)]) rfl rfl (zmS32_16 _ _ _ _ _ _ _ _ H)
    · cases H
      exact zA_callX (as := [zrv x26, zI x2, zI x3]) (st' := []) rfl rfl (zrcv_Q e29 c30) rfl (zmE19 _ _ _) rfl rfl rfl (zmS19 C)
  · cases H
    exact zA_callX (as := [zrv x0, zI x1]) (st' := []) rfl rfl (zrcv_Q e23 c24) rfl (zmE31 _ _) rfl rfl rfl (zmS31 C)
theorem zmE32 (x0 : zq) (x1 : Int32) (x2 : Int32) (x3 : Int32) : zpad (zPr.2.1 32).1 (zil [zrv x0, zI x1, zI x2, zI x3]) = [some (zrv x0), some (zI x1), some (zI x2), some (zI x3), none] := by
  simp only [zil_A, zil_I, zil_F, zil_D, zil_N]
  rfl
-- 101: ReleaseHouse.measure(IIZZI)I
def zm101 (x0 : zq) (x1 : Int32) (x2 : Int32) (x3 : Int32) (x4 : Int32) (x5 : Int32) (h : zH) : zRs Int32 :=
  zob 11 x0 fun p21 i22 =>
  zb (zm132 x0 x1 x2 h) fun x26 h25 =>
  zb (zm131 x5 (0 : Int32) (60000 : Int32) h25) fun _ h27 =>
  zob 9 x26 fun p28 i29 =>
  if (zr h27 p28 i29 1) = none then
    some (.inr 1, zro h27 1 6)
  else
    if (zr h27 p28 i29 0) = none then
      some (.inr 1, zro h27 1 6)
    else
      if (zi h27 p21 i22 16) < (600 : Int32) then
        zlet (zsi h27 p21 i22 16 ((zi h27 p21 i22 16) + (1 : Int32))) fun h35 =>
        zb (zm32 x26 x3 x4 x5 h35) fun x38 h37 =>
        some (.inl x38, h37)
      else
        some (.inr 1, zro h27 1 6)
theorem zmS101 {x0 : zq} {x1 : Int32} {x2 : Int32} {x3 : Int32} {x4 : Int32} {x5 : Int32} {h : zH} {r : Int32 ⊕ Nat} {h' : zH} (H : zm101 x0 x1 x2 x3 x4 x5 h = some (r, h')) : zAt 101 0 [some (zrv x0), some (zI x1), some (zI x2), some (zI x3), some (zI x4), some (zI x5), none] [] h (zoI r) h' := by
  unfold zm101 at H
  refine zA_aldn rfl rfl rfl ?_
  refine zA_ldn rfl rfl rfl ?_
  refine zA_ldn rfl rfl rfl ?_
  obtain ⟨p21, i22, e23, c24, H⟩ := zob_e H
  rcases zb_e H with ⟨x26, h25, C, H⟩ | ⟨E, h25, C, H⟩
  · refine zA_callV (as := [zrv x0, zI x1, zI x2]) (st' := []) rfl rfl rfl (zrcv_Q e23 c24) rfl (zmE132 _ _ _) rfl (zmS132 C) ?_
    refine zA_ast2 rfl rfl rfl (zset1 (L' := [some (zrv x0), some (zI x1), some (zI x2), some (zI x3), some (zI x4), some (zI x5), some (zrv x26)]) (zcat_rv _) rfl (zpcV rfl rfl)) ?_
    refine zA_ld rfl rfl rfl ?_
    refine zA_push rfl rfl zkk7 ?_
    refine zA_push rfl rfl zkk42 ?_
    rcases zb_e H with ⟨u39, h27, C, H⟩ | ⟨E, h27, C, H⟩
    · refine zA_callU (as := [zI x5, zI (0 : Int32), zI (60000 : Int32)]) (st' := []) rfl rfl rfl rfl rfl (zmE131 _ _ _) rfl (zmS131 C) ?_
      refine zA_ald rfl rfl rfl ?_
      obtain ⟨p28, i29, e30, c31, H⟩ := zob_e H
      refine zA_gf3 rfl rfl e30 c31 ?_
      rcases zite_e H with ⟨c32, H⟩ | ⟨c32, H⟩
      · refine zA_brT (c := (zr h27 p28 i29 1) = none) rfl rfl zIf_null c32 ?_
        refine zA_tr (L := [none, none, none, none, none, none, none]) rfl rfl ?_
        cases H
        exact zA_thr rfl rfl
      · refine zA_brF (c := (zr h27 p28 i29 1) = none) rfl rfl zIf_null c32 ?_
        refine zA_ald rfl rfl rfl ?_
        refine zA_gf3 rfl rfl e30 c31 ?_
        rcases zite_e H with ⟨c33, H⟩ | ⟨c33, H⟩
        · refine zA_brT (c := (zr h27 p28 i29 0) = none) rfl rfl zIf_null c33 ?_
          refine zA_tr (L := [none, none, none, none, none, none, none]) rfl rfl ?_
          cases H
          exact zA_thr rfl rfl
        · refine zA_brF (c := (zr h27 p28 i29 0) = none) rfl rfl zIf_null c33 ?_
          refine zA_aldn rfl rfl rfl ?_
          refine zA_gf0 rfl rfl (Or.inl rfl) e23 c24 ?_
          refine zA_push rfl rfl zkk43 ?_
          rcases zite_e H with ⟨c34, H⟩ | ⟨c34, H⟩
          · refine zA_brT (c := (zi h27 p21 i22 16) < (600 : Int32)) rfl rfl rfl c34 ?_
            refine zA_tr (L := [some (zrv x0), none, none, some (zI x3), some (zI x4), some (zI x5), some (zrv x26)]) rfl rfl ?_
            refine zA_aldn rfl rfl rfl ?_
            refine zA_dup rfl rfl (zcat_rv _) ?_
            refine zA_gf0 rfl rfl (Or.inl rfl) e23 c24 ?_
            refine zA_push rfl rfl zkk5 ?_
            refine zA_st (st' := [zI ((zi h27 p21 i22 16) + (1 : Int32)), zrv x0]) rfl rfl rfl rfl ?_
            obtain ⟨h35, e36, H⟩ := zlet_e H
            refine zA_pf0 rfl rfl e23 c24 e36 ?_
            refine zA_ald rfl rfl rfl ?_
            refine zA_ldn rfl rfl rfl ?_
            refine zA_ld rfl rfl rfl ?_
            refine zA_ld rfl rfl rfl ?_
            rcases zb_e H with ⟨x38, h37, C, H⟩ | ⟨E, h37, C, H⟩
            · refine zA_callV (as := [zrv x26, zI x3, zI x4, zI x5]) (st' := []) rfl rfl rfl (zrcv_Q e30 c31) rfl (zmE32 _ _ _ _) rfl (zmS32 C) ?_
              cases H
              exact zA_ret rfl rfl
            · cases H
              exact zA_callX (as := [zrv x26, zI x3, zI x4, zI x5]) (st' := []) rfl rfl (zrcv_Q e30 c31) rfl (zmE32 _ _ _ _) rfl rfl rfl (zmS32 C)
          · refine zA_brF (c := (zi h27 p21 i22 16) < (600 : Int32)) rfl rfl rfl c34 ?_
            refine zA_tr (L := [none, none, none, none, none, none, none]) rfl rfl ?_
            cases H
            exact zA_thr rfl rfl
    · cases H
      exact zA_callX (as := [zI x5, zI (0 : Int32), zI (60000 : Int32)]) (st' := []) rfl rfl rfl rfl (zmE131 _ _ _) rfl rfl rfl (zmS131 C)
  · cases H
    exact zA_callX (as := [zrv x0, zI x1, zI x2]) (st' := []) rfl rfl (zrcv_Q e23 c24) rfl (zmE132 _ _ _) rfl rfl rfl (zmS132 C)
theorem zmE101 (x0 : zq) (x1 : Int32) (x2 : Int32) (x3 : Int32) (x4 : Int32) (x5 : Int32) : zpad (zPr.2.1 101).1 (zil [zrv x0, zI x1, zI x2, zI x3, zI x4, zI x5]) = [some (zrv x0), some (zI x1), some (zI x2), some (zI x3), some (zI x4), some (zI x5), none] := by
  simp only [zil_A, zil_I, zil_F, zil_D, zil_N]
  rfl
def zm106_16 (x2 : zq) (s0 : zq) (s1 : Int32) (h : zH) : zRs Int32 :=
  zob 8 s0 fun p21 i22 =>
  zif (s1 = 0 ∨ s1 = 1) <|
  zlet (zsi h p21 i22 7 s1) fun h25 =>
  zob 8 x2 fun p28 i29 =>
  zif ((zi h25 p28 i29 7) = 0 ∨ (zi h25 p28 i29 7) = 1) <|
  some (.inl (zi h25 p28 i29 7), h25)
theorem zmS106_16 : ∀ (x2 : zq) (s0 : zq) (s1 : Int32) (h : zH) (r : Int32 ⊕ Nat) (h' : zH), zm106_16 x2 s0 s1 h = some (r, h') → zAt 106 16 [none, none, some (zrv x2)] [zI s1, zrv s0] h (zoI r) h' := by
  intro x2 s0 s1 h r h' H
  unfold zm106_16 at H
  obtain ⟨p21, i22, e23, c24, H⟩ := zob_e H
  obtain ⟨c27, H⟩ := zif_e H
  obtain ⟨h25, e26, H⟩ := zlet_e H
  refine zA_pf1 rfl rfl e23 c24 c27 e26 ?_
  refine zA_aldn rfl rfl rfl ?_
  obtain ⟨p28, i29, e30, c31, H⟩ := zob_e H
  refine zA_gf0 rfl rfl (Or.inr rfl) e30 c31 ?_
  obtain ⟨c32, H⟩ := zif_e H
  cases H
  exact zA_ret rfl (zret_Z c32)
-- 106: ReleaseHouse.hold(I)Z
def zm106 (x0 : zq) (x1 : Int32) (h : zH) : zRs Int32 :=
  zb (zm131 x1 (0 : Int32) (3 : Int32) h) fun _ h21 =>
  zob 11 x0 fun p22 i23 =>
  zra (zr h21 p22 i23 6) x1 h21 fun v33 =>
  zob 8 v33 fun p35 i36 =>
  if (zi h21 p35 i36 7) = 0 then
    zm106_16 v33 v33 (1 : Int32) h21
  else
    zm106_16 v33 v33 (0 : Int32) h21
theorem zmS106 {x0 : zq} {x1 : Int32} {h : zH} {r : Int32 ⊕ Nat} {h' : zH} (H : zm106 x0 x1 h = some (r, h')) : zAt 106 0 [some (zrv x0), some (zI x1), none] [] h (zoI r) h' := by
  unfold zm106 at H
  refine zA_ldn rfl rfl rfl ?_
  refine zA_push rfl rfl zkk7 ?_
  refine zA_push rfl rfl zkk3 ?_
  rcases zb_e H with ⟨u40, h21, C, H⟩ | ⟨E, h21, C, H⟩
  · refine zA_callU (as := [zI x1, zI (0 : Int32), zI (3 : Int32)]) (st' := []) rfl rfl rfl rfl rfl (zmE131 _ _ _) rfl (zmS131 C) ?_
    refine zA_aldn rfl rfl rfl ?_
    obtain ⟨p22, i23, e24, c25, H⟩ := zob_e H
    refine zA_gf3 rfl rfl e24 c25 ?_
    refine zA_ldn rfl rfl rfl ?_
    obtain ⟨p26, i27, j28, v33, e29, c30, c31, e32, e34, H⟩ := zra_e H
    refine zA_aal rfl rfl e29 c30 c31 e32 e34 ?_
    refine zA_astn2 rfl rfl rfl (zset1 (L' := [some (zrv x0), some (zI x1), some (zrv v33)]) (zcat_rv _) rfl (zpcV rfl rfl)) ?_
    refine zA_aldn rfl rfl rfl ?_
    refine zA_aldn rfl rfl rfl ?_
    obtain ⟨p35, i36, e37, c38, H⟩ := zob_e H
    refine zA_gf0 rfl rfl (Or.inr rfl) e37 c38 ?_
    rcases zite_e H with ⟨c39, H⟩ | ⟨c39, H⟩
    · refine zA_brF' (c := (zi h21 p35 i36 7) = 0) rfl rfl rfl c39 ?_
      refine zA_push rfl rfl zkk5 ?_
      refine zA_go rfl rfl ?_
      exact zA_tr (L := [none, none, some (zrv v33)]) rfl rfl (zmS106_16 _ _ _ _ _ _ H)
    · refine zA_brT' (c := (zi h21 p35 i36 7) = 0) rfl rfl rfl c39 ?_
      refine zA_tr (L := [none, none, some (zrv v33)]) rfl rfl ?_
      refine zA_push rfl rfl zkk7 ?_
      exact zA_tr (L := [none, none, some (zrv v33)]) rfl rfl (zmS106_16 _ _ _ _ _ _ H)
  · cases H
    exact zA_callX (as := [zI x1, zI (0 : Int32), zI (3 : Int32)]) (st' := []) rfl rfl rfl rfl (zmE131 _ _ _) rfl rfl rfl (zmS131 C)
theorem zmE106 (x0 : zq) (x1 : Int32) : zpad (zPr.2.1 106).1 (zil [zrv x0, zI x1]) = [some (zrv x0), some (zI x1), none] := by
  simp only [zil_A, zil_I, zil_F, zil_D, zil_N]
  rfl
-- 111: ReleaseHouse.left(I)I
def zm111 (x0 : zq) (x1 : Int32) (h : zH) : zRs Int32 :=
  zb (zm131 x1 (0 : Int32) (2 : Int32) h) fun _ h21 =>
  zob 11 x0 fun p22 i23 =>
  zb (zm71 x0 x1 h21) fun x27 h26 =>
  zb (zm69 x0 x1 h26) fun x29 h28 =>
  some (.inl (x27 - x29), h28)
theorem zmS111 {x0 : zq} {x1 : Int32} {h : zH} {r : Int32 ⊕ Nat} {h' : zH} (H : zm111 x0 x1 h = some (r, h')) : zAt 111 0 [some (zrv x0), some (zI x1)] [] h (zoI r) h' := by
  unfold zm111 at H
  refine zA_ldn rfl rfl rfl ?_
  refine zA_push rfl rfl zkk7 ?_
  refine zA_push rfl rfl zkk15 ?_
  rcases zb_e H with ⟨u30, h21, C, H⟩ | ⟨E, h21, C, H⟩
  · refine zA_callU (as := [zI x1, zI (0 : Int32), zI (2 : Int32)]) (st' := []) rfl rfl rfl rfl rfl (zmE131 _ _ _) rfl (zmS131 C) ?_
    refine zA_aldn rfl rfl rfl ?_
    refine zA_ldn rfl rfl rfl ?_
    obtain ⟨p22, i23, e24, c25, H⟩ := zob_e H
    rcases zb_e H with ⟨x27, h26, C, H⟩ | ⟨E, h26, C, H⟩
    · refine zA_callV (as := [zrv x0, zI x1]) (st' := []) rfl rfl rfl (zrcv_Q e24 c25) rfl (zmE71 _ _) rfl (zmS71 C) ?_
      refine zA_aldn rfl rfl rfl ?_
      refine zA_ldn rfl rfl rfl ?_
      rcases zb_e H with ⟨x29, h28, C, H⟩ | ⟨E, h28, C, H⟩
      · refine zA_callV (as := [zrv x0, zI x1]) (st' := [zI x27]) rfl rfl rfl (zrcv_Q e24 c25) rfl (zmE69 _ _) rfl (zmS69 C) ?_
        refine zA_st (st' := [zI (x27 - x29)]) rfl rfl rfl rfl ?_
        cases H
        exact zA_ret rfl rfl
      · cases H
        exact zA_callX (as := [zrv x0, zI x1]) (st' := [zI x27]) rfl rfl (zrcv_Q e24 c25) rfl (zmE69 _ _) rfl rfl rfl (zmS69 C)
    · cases H
      exact zA_callX (as := [zrv x0, zI x1]) (st' := []) rfl rfl (zrcv_Q e24 c25) rfl (zmE71 _ _) rfl rfl rfl (zmS71 C)
  · cases H
    exact zA_callX (as := [zI x1, zI (0 : Int32), zI (2 : Int32)]) (st' := []) rfl rfl rfl rfl (zmE131 _ _ _) rfl rfl rfl (zmS131 C)
theorem zmE111 (x0 : zq) (x1 : Int32) : zpad (zPr.2.1 111).1 (zil [zrv x0, zI x1]) = [some (zrv x0), some (zI x1)] := by
  simp only [zil_A, zil_I, zil_F, zil_D, zil_N]
  rfl
-- 109: ReleaseHouse.zone(II)Z
def zm109 (x0 : zq) (x1 : Int32) (x2 : Int32) (h : zH) : zRs Int32 :=
  zb (zm131 x1 (0 : Int32) (2 : Int32) h) fun _ h21 =>
  zb (zm131 x2 (0 : Int32) (2 : Int32) h21) fun _ h22 =>
  zob 11 x0 fun p23 i24 =>
  zri (zr h22 p23 i24 8) x1 h22 fun v34 =>
  zar 1 (zr h22 p23 i24 8) x1 h22 fun p36 i37 j38 =>
  zlet (zsi h22 p36 i37 j38 (v34 ^^^ ((1 : Int32) <<< (x2 &&& 31)))) fun h43 =>
  zri (zr h43 p23 i24 8) x1 h43 fun v52 =>
  zb (zm133 v52 x2 h43) fun x55 h54 =>
  zif (x55 = 0 ∨ x55 = 1) <|
  some (.inl x55, h54)
theorem zmS109 {x0 : zq} {x1 : Int32} {x2 : Int32} {h : zH} {r : Int32 ⊕ Nat} {h' : zH} (H : zm109 x0 x1 x2 h = some (r, h')) : zAt 109 0 [some (zrv x0), some (zI x1), some (zI x2)] [] h (zoI r) h' := by
  unfold zm109 at H
  refine zA_ldn rfl rfl rfl ?_
  refine zA_push rfl rfl zkk7 ?_
  refine zA_push rfl rfl zkk15 ?_
  rcases zb_e H with ⟨u58, h21, C, H⟩ | ⟨E, h21, C, H⟩
  · refine zA_callU (as := [zI x1, zI (0 : Int32), zI (2 : Int32)]) (st' := []) rfl rfl rfl rfl rfl (zmE131 _ _ _) rfl (zmS131 C) ?_
    refine zA_ldn rfl rfl rfl ?_
    refine zA_push rfl rfl zkk7 ?_
    refine zA_push rfl rfl zkk15 ?_
    rcases zb_e H with ⟨u57, h22, C, H⟩ | ⟨E, h22, C, H⟩
    · refine zA_callU (as := [zI x2, zI (0 : Int32), zI (2 : Int32)]) (st' := []) rfl rfl rfl rfl rfl (zmE131 _ _ _) rfl (zmS131 C) ?_
      refine zA_aldn rfl rfl rfl ?_
      obtain ⟨p23, i24, e25, c26, H⟩ := zob_e H
      refine zA_gf3 rfl rfl e25 c26 ?_
      refine zA_ldn rfl rfl rfl ?_
      refine zA_dup2 rfl rfl rfl (zcat_rv _) ?_
      obtain ⟨p27, i28, j29, v34, e30, c31, c32, e33, e35, H⟩ := zri_e H
      refine zA_ial rfl rfl e30 c31 c32 e33 e35 ?_
      refine zA_push rfl rfl zkk5 ?_
      refine zA_ldn rfl rfl rfl ?_
      refine zA_st (st' := [zI ((1 : Int32) <<< (x2 &&& 31)), zI v34, zI x1, zrv (zr h22 p23 i24 8)]) rfl rfl rfl rfl ?_
      refine zA_st (st' := [zI (v34 ^^^ ((1 : Int32) <<< (x2 &&& 31))), zI x1, zrv (zr h22 p23 i24 8)]) rfl rfl rfl rfl ?_
      obtain ⟨p36, i37, j38, e39, c40, c41, e42, H⟩ := zar_e H
      obtain ⟨h43, e44, H⟩ := zlet_e H
      refine zA_ias rfl rfl e39 c40 c41 e42 e44 ?_
      refine zA_aldn rfl rfl rfl ?_
      refine zA_gf3 rfl rfl e25 c26 ?_
      refine zA_ldn rfl rfl rfl ?_
      obtain ⟨p45, i46, j47, v52, e48, c49, c50, e51, e53, H⟩ := zri_e H
      refine zA_ial rfl rfl e48 c49 c50 e51 e53 ?_
      refine zA_ldn rfl rfl rfl ?_
      rcases zb_e H with ⟨x55, h54, C, H⟩ | ⟨E, h54, C, H⟩
      · refine zA_callV (as := [zI v52, zI x2]) (st' := []) rfl rfl rfl rfl rfl (zmE133 _ _) rfl (zmS133 C) ?_
        obtain ⟨c56, H⟩ := zif_e H
        cases H
        exact zA_ret rfl (zret_Z c56)
      · cases H
        exact zA_callX (as := [zI v52, zI x2]) (st' := []) rfl rfl rfl rfl (zmE133 _ _) rfl rfl rfl (zmS133 C)
    · cases H
      exact zA_callX (as := [zI x2, zI (0 : Int32), zI (2 : Int32)]) (st' := []) rfl rfl rfl rfl (zmE131 _ _ _) rfl rfl rfl (zmS131 C)
  · cases H
    exact zA_callX (as := [zI x1, zI (0 : Int32), zI (2 : Int32)]) (st' := []) rfl rfl rfl rfl (zmE131 _ _ _) rfl rfl rfl (zmS131 C)
theorem zmE109 (x0 : zq) (x1 : Int32) (x2 : Int32) : zpad (zPr.2.1 109).1 (zil [zrv x0, zI x1, zI x2]) = [some (zrv x0), some (zI x1), some (zI x2)] := by
  simp only [zil_A, zil_I, zil_F, zil_D, zil_N]
  rfl
-- 110: ReleaseHouse.surge(II)I
def zm110 (x0 : zq) (x1 : Int32) (x2 : Int32) (h : zH) : zRs Int32 :=
  zb (zm131 x1 (0 : Int32) (2 : Int32) h) fun _ h21 =>
  zb (zm131 x2 (0 : Int32) (8 : Int32) h21) fun _ h22 =>
  zob 11 x0 fun p23 i24 =>
  zri (zr h22 p23 i24 9) x1 h22 fun v34 =>
  zar 1 (zr h22 p23 i24 9) x1 h22 fun p36 i37 j38 =>
  zlet (zsi h22 p36 i37 j38 x2) fun h43 =>
  some (.inl v34, h43)
theorem zmS110 {x0 : zq} {x1 : Int32} {x2 : Int32} {h : zH} {r : Int32 ⊕ Nat} {h' : zH} (H : zm110 x0 x1 x2 h = some (r, h')) : zAt 110 0 [some (zrv x0), some (zI x1), some (zI x2), none] [] h (zoI r) h' := by
  unfold zm110 at H
  refine zA_ldn rfl rfl rfl ?_
  refine zA_push rfl rfl zkk7 ?_
  refine zA_push rfl rfl zkk15 ?_
  rcases zb_e H with ⟨u46, h21, C, H⟩ | ⟨E, h21, C, H⟩
  · refine zA_callU (as := [zI x1, zI (0 : Int32), zI (2 : Int32)]) (st' := []) rfl rfl rfl rfl rfl (zmE131 _ _ _) rfl (zmS131 C) ?_
    refine zA_ldn rfl rfl rfl ?_
    refine zA_push rfl rfl zkk7 ?_
    refine zA_push rfl rfl zkk0 ?_
    rcases zb_e H with ⟨u45, h22, C, H⟩ | ⟨E, h22, C, H⟩
    · refine zA_callU (as := [zI x2, zI (0 : Int32), zI (8 : Int32)]) (st' := []) rfl rfl rfl rfl rfl (zmE131 _ _ _) rfl (zmS131 C) ?_
      refine zA_aldn rfl rfl rfl ?_
      obtain ⟨p23, i24, e25, c26, H⟩ := zob_e H
      refine zA_gf3 rfl rfl e25 c26 ?_
      refine zA_ldn rfl rfl rfl ?_
      obtain ⟨p27, i28, j29, v34, e30, c31, c32, e33, e35, H⟩ := zri_e H
      refine zA_ial rfl rfl e30 c31 c32 e33 e35 ?_
      refine zA_istn2 rfl rfl rfl (zset1 (L' := [some (zrv x0), some (zI x1), some (zI x2), some (zI v34)]) rfl rfl (zpcV rfl rfl)) ?_
      refine zA_aldn rfl rfl rfl ?_
      refine zA_gf3 rfl rfl e25 c26 ?_
      refine zA_ldn rfl rfl rfl ?_
      refine zA_ldn rfl rfl rfl ?_
      obtain ⟨p36, i37, j38, e39, c40, c41, e42, H⟩ := zar_e H
      obtain ⟨h43, e44, H⟩ := zlet_e H
      refine zA_ias rfl rfl e39 c40 c41 e42 e44 ?_
      refine zA_ldn rfl rfl rfl ?_
      cases H
      exact zA_ret rfl rfl
    · cases H
      exact zA_callX (as := [zI x2, zI (0 : Int32), zI (8 : Int32)]) (st' := []) rfl rfl rfl rfl (zmE131 _ _ _) rfl rfl rfl (zmS131 C)
  · cases H
    exact zA_callX (as := [zI x1, zI (0 : Int32), zI (2 : Int32)]) (st' := []) rfl rfl rfl rfl (zmE131 _ _ _) rfl rfl rfl (zmS131 C)
theorem zmE110 (x0 : zq) (x1 : Int32) (x2 : Int32) : zpad (zPr.2.1 110).1 (zil [zrv x0, zI x1, zI x2]) = [some (zrv x0), some (zI x1), some (zI x2), none] := by
  simp only [zil_A, zil_I, zil_F, zil_D, zil_N]
  rfl
