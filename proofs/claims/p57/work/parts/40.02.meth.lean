set_option maxRecDepth 16384
/-! The methods read back (printed by wip/whole/gen/dec.py). -/
-- 83: ReleaseHouse.isDead()Z
def zm83 (x0 : zq) (h : zH) : zRs Int32 :=
  zob 11 x0 fun p21 i22 =>
  zif ((zi h p21 i22 13) = 0 ∨ (zi h p21 i22 13) = 1) <|
  some (.inl (zi h p21 i22 13), h)
theorem zmS83 {x0 : zq} {h : zH} {r : Int32 ⊕ Nat} {h' : zH} (H : zm83 x0 h = some (r, h')) : zAt 83 0 [some (zrv x0)] [] h (zoI r) h' := by
  unfold zm83 at H
  refine zA_aldn rfl rfl rfl ?_
  obtain ⟨p21, i22, e23, c24, H⟩ := zob_e H
  refine zA_gf0 rfl rfl (Or.inr rfl) e23 c24 ?_
  obtain ⟨c25, H⟩ := zif_e H
  cases H
  exact zA_ret rfl (zret_Z c25)
theorem zmE83 (x0 : zq) : zpad (zPr.2.1 83).1 (zil [zrv x0]) = [some (zrv x0)] := by
  simp only [zil_A, zil_I, zil_F, zil_D, zil_N]
  rfl
def zm82_31 (k18 : zq → Int32 → Int32 → zH → zRs Int32) (x0 : zq) (x1 : Int32) (x2 : Int32) (h : zH) : zRs Int32 :=
  zlet (x2 + (1 : Int32)) fun x21 =>
  k18 x0 x1 x21 h
theorem zmS82_31 {k18 : zq → Int32 → Int32 → zH → zRs Int32} (hk18 : ∀ (x0 : zq) (x1 : Int32) (x2 : Int32) (h : zH) (r : Int32 ⊕ Nat) (h' : zH), k18 x0 x1 x2 h = some (r, h') → zAt 82 18 [some (zrv x0), some (zI x1), some (zI x2)] [] h (zoI r) h') : ∀ (x0 : zq) (x1 : Int32) (x2 : Int32) (h : zH) (r : Int32 ⊕ Nat) (h' : zH), zm82_31 k18 x0 x1 x2 h = some (r, h') → zAt 82 31 [some (zrv x0), some (zI x1), some (zI x2)] [] h (zoI r) h' := by
  intro x0 x1 x2 h r h' H
  unfold zm82_31 at H
  obtain ⟨x21, e22, H⟩ := zlet_e H
  refine zA_inc rfl rfl rfl (e22.trans (congrArg (_ + ·) zkk8)) (zset1 (L' := [some (zrv x0), some (zI x1), some (zI x21)]) rfl rfl (zpcV rfl rfl)) ?_
  refine zA_go rfl rfl ?_
  exact zA_tr (L := [some (zrv x0), some (zI x1), some (zI x21)]) rfl rfl (hk18 _ _ _ _ _ _ H)
def zm82_18 : Nat → zq → Int32 → Int32 → zH → zRs Int32
  | 0, _, _, _, _ => none
  | n + 1, x0, x1, x2, h =>
    zob 11 x0 fun p21 i22 =>
    zlz (zr h p21 i22 2) h fun v30 =>
    if v30 ≤ x2 then
      some (.inl x1, h)
    else
      zlg (zr h p21 i22 2) x2 h fun v39 =>
      zob 5 v39 fun p41 i42 =>
      if (zi h p41 i42 2) = 0 then
        zlet (x1 + (1 : Int32)) fun x46 =>
        zm82_31 (zm82_18 n) x0 x46 x2 h
      else
        zm82_31 (zm82_18 n) x0 x1 x2 h
theorem zmS82_18 : ∀ (n : Nat) (x0 : zq) (x1 : Int32) (x2 : Int32) (h : zH) (r : Int32 ⊕ Nat) (h' : zH), zm82_18 n x0 x1 x2 h = some (r, h') → zAt 82 18 [some (zrv x0), some (zI x1), some (zI x2)] [] h (zoI r) h' := by
  intro n
  induction n with
  | zero => intro x0 x1 x2 h r h' H; cases H
  | succ n ih =>
    intro x0 x1 x2 h r h' H
    unfold zm82_18 at H
    refine zA_ldn rfl rfl rfl ?_
    refine zA_aldn rfl rfl rfl ?_
    obtain ⟨p21, i22, e23, c24, H⟩ := zob_e H
    refine zA_gf3 rfl rfl e23 c24 ?_
    obtain ⟨p25, i26, v30, e27, c28, c29, e31, H⟩ := zlz_e H
    refine zA_l2 rfl rfl rfl e27 c28 c29 e31 ?_
    rcases zite_e H with ⟨c32, H⟩ | ⟨c32, H⟩
    · refine zA_brT (c := v30 ≤ x2) rfl rfl rfl c32 ?_
      refine zA_tr (L := [none, some (zI x1), none]) rfl rfl ?_
      refine zA_ldn rfl rfl rfl ?_
      cases H
      exact zA_ret rfl rfl
    · refine zA_brF (c := v30 ≤ x2) rfl rfl rfl c32 ?_
      refine zA_aldn rfl rfl rfl ?_
      refine zA_gf3 rfl rfl e23 c24 ?_
      refine zA_ldn rfl rfl rfl ?_
      obtain ⟨p33, i34, v39, e35, c36, c37, c38, e40, H⟩ := zlg_e H
      refine zA_l3 rfl rfl rfl e35 c36 c37 c38 e40 ?_
      obtain ⟨p41, i42, e43, c44, H⟩ := zob_e H
      refine zA_cast rfl rfl e43 c44 ?_
      refine zA_gf0 rfl rfl (Or.inl rfl) e43 c44 ?_
      rcases zite_e H with ⟨c45, H⟩ | ⟨c45, H⟩
      · refine zA_brF' (c := (zi h p41 i42 2) = 0) rfl rfl rfl c45 ?_
        obtain ⟨x46, e47, H⟩ := zlet_e H
        refine zA_inc rfl rfl rfl (e47.trans (congrArg (_ + ·) zkk8)) (zset1 (L' := [some (zrv x0), some (zI x46), some (zI x2)]) rfl rfl (zpcV rfl (zcat_rv _))) ?_
        exact zA_tr (L := [some (zrv x0), some (zI x46), some (zI x2)]) rfl rfl (zmS82_31 ih _ _ _ _ _ _ H)
      · refine zA_brT' (c := (zi h p41 i42 2) = 0) rfl rfl rfl c45 ?_
        exact zA_tr (L := [some (zrv x0), some (zI x1), some (zI x2)]) rfl rfl (zmS82_31 ih _ _ _ _ _ _ H)
-- 82: ReleaseHouse.rise()I
def zm82 (x0 : zq) (h : zH) : zRs Int32 :=
  zob 11 x0 fun p21 i22 =>
  if (zi h p21 i22 13) = 0 then
    some (.inr 1, zro h 1 6)
  else
    zlet (zsi h p21 i22 13 (0 : Int32)) fun h26 =>
    zlet (zsi h26 p21 i22 12 (0 : Int32)) fun h28 =>
    zm82_18 zN0 x0 (0 : Int32) (0 : Int32) h28
theorem zmS82 {x0 : zq} {h : zH} {r : Int32 ⊕ Nat} {h' : zH} (H : zm82 x0 h = some (r, h')) : zAt 82 0 [some (zrv x0), none, none] [] h (zoI r) h' := by
  unfold zm82 at H
  refine zA_aldn rfl rfl rfl ?_
  obtain ⟨p21, i22, e23, c24, H⟩ := zob_e H
  refine zA_gf0 rfl rfl (Or.inr rfl) e23 c24 ?_
  rcases zite_e H with ⟨c25, H⟩ | ⟨c25, H⟩
  · refine zA_brF' (c := (zi h p21 i22 13) = 0) rfl rfl rfl c25 ?_
    cases H
    exact zA_thr rfl rfl
  · refine zA_brT' (c := (zi h p21 i22 13) = 0) rfl rfl rfl c25 ?_
    refine zA_aldn rfl rfl rfl ?_
    refine zA_push rfl rfl zkk7 ?_
    obtain ⟨h26, e27, H⟩ := zlet_e H
    refine zA_pf1 rfl rfl e23 c24 (by decide) e27 ?_
    refine zA_aldn rfl rfl rfl ?_
    refine zA_push rfl rfl zkk7 ?_
    obtain ⟨h28, e29, H⟩ := zlet_e H
    refine zA_pf0 rfl rfl e23 c24 e29 ?_
    refine zA_push rfl rfl zkk7 ?_
    refine zA_istn2 rfl rfl rfl (zset1 (L' := [some (zrv x0), some (zI (0 : Int32)), none]) rfl rfl (zpcV rfl (zcat_rv _))) ?_
    refine zA_push rfl rfl zkk7 ?_
    refine zA_istn2 rfl rfl rfl (zset1 (L' := [some (zrv x0), some (zI (0 : Int32)), some (zI (0 : Int32))]) rfl rfl (zpcV rfl rfl)) ?_
    exact zA_tr (L := [some (zrv x0), some (zI (0 : Int32)), some (zI (0 : Int32))]) rfl rfl (zmS82_18 zN0 _ _ _ _ _ _ H)
theorem zmE82 (x0 : zq) : zpad (zPr.2.1 82).1 (zil [zrv x0]) = [some (zrv x0), none, none] := by
  simp only [zil_A, zil_I, zil_F, zil_D, zil_N]
  rfl
def zm81_14 (s0 : zq) (s1 : Int32) (h : zH) : zRs Unit :=
  zob 11 s0 fun p21 i22 =>
  zlet (zsi h p21 i22 12 s1) fun h25 =>
  some (.inl (), h25)
theorem zmS81_14 : ∀ (s0 : zq) (s1 : Int32) (h : zH) (r : Unit ⊕ Nat) (h' : zH), zm81_14 s0 s1 h = some (r, h') → zAt 81 14 [none, none] [zI s1, zrv s0] h (zoU r) h' := by
  intro s0 s1 h r h' H
  unfold zm81_14 at H
  obtain ⟨p21, i22, e23, c24, H⟩ := zob_e H
  obtain ⟨h25, e26, H⟩ := zlet_e H
  refine zA_pf0 rfl rfl e23 c24 e26 ?_
  cases H
  exact zA_ret rfl rfl
-- 81: ReleaseHouse.die(Z)V
def zm81 (x0 : zq) (x1 : Int32) (h : zH) : zRs Unit :=
  zob 11 x0 fun p21 i22 =>
  if (zi h p21 i22 13) = 0 then
    if x1 = 0 then
      zm81_14 x0 (1 : Int32) h
    else
      zm81_14 x0 (2 : Int32) h
  else
    some (.inr 1, zro h 1 6)
theorem zmS81 {x0 : zq} {x1 : Int32} {h : zH} {r : Unit ⊕ Nat} {h' : zH} (H : zm81 x0 x1 h = some (r, h')) : zAt 81 0 [some (zrv x0), some (zI x1)] [] h (zoU r) h' := by
  unfold zm81 at H
  refine zA_aldn rfl rfl rfl ?_
  obtain ⟨p21, i22, e23, c24, H⟩ := zob_e H
  refine zA_gf0 rfl rfl (Or.inr rfl) e23 c24 ?_
  rcases zite_e H with ⟨c25, H⟩ | ⟨c25, H⟩
  · refine zA_brT (c := (zi h p21 i22 13) = 0) rfl rfl rfl c25 ?_
    refine zA_aldn rfl rfl rfl ?_
    refine zA_ldn rfl rfl rfl ?_
    rcases zite_e H with ⟨c26, H⟩ | ⟨c26, H⟩
    · refine zA_brT (c := x1 = 0) rfl rfl rfl c26 ?_
      refine zA_tr (L := [none, none]) rfl rfl ?_
      refine zA_push rfl rfl zkk5 ?_
      exact zA_tr (L := [none, none]) rfl rfl (zmS81_14 _ _ _ _ _ H)
    · refine zA_brF (c := x1 = 0) rfl rfl rfl c26 ?_
      refine zA_push rfl rfl zkk15 ?_
      refine zA_go rfl rfl ?_
      exact zA_tr (L := [none, none]) rfl rfl (zmS81_14 _ _ _ _ _ H)
  · refine zA_brF (c := (zi h p21 i22 13) = 0) rfl rfl rfl c25 ?_
    cases H
    exact zA_thr rfl rfl
theorem zmE81 (x0 : zq) (x1 : Int32) : zpad (zPr.2.1 81).1 (zil [zrv x0, zI x1]) = [some (zrv x0), some (zI x1)] := by
  simp only [zil_A, zil_I, zil_F, zil_D, zil_N]
  rfl
def zm90_34 (k19 : zq → Int32 → zq → Int32 → Int32 → zH → zRs Int32) (x0 : zq) (x2 : Int32) (x3 : zq) (x4 : Int32) (x5 : Int32) (h : zH) : zRs Int32 :=
  zlet (x5 + (1 : Int32)) fun x21 =>
  k19 x0 x2 x3 x4 x21 h
theorem zmS90_34 {k19 : zq → Int32 → zq → Int32 → Int32 → zH → zRs Int32} (hk19 : ∀ (x0 : zq) (x2 : Int32) (x3 : zq) (x4 : Int32) (x5 : Int32) (h : zH) (r : Int32 ⊕ Nat) (h' : zH), k19 x0 x2 x3 x4 x5 h = some (r, h') → zAt 90 19 [some (zrv x0), none, some (zI x2), some (zrv x3), some (zI x4), some (zI x5)] [] h (zoI r) h') : ∀ (x0 : zq) (x2 : Int32) (x3 : zq) (x4 : Int32) (x5 : Int32) (h : zH) (r : Int32 ⊕ Nat) (h' : zH), zm90_34 k19 x0 x2 x3 x4 x5 h = some (r, h') → zAt 90 34 [some (zrv x0), none, some (zI x2), some (zrv x3), some (zI x4), some (zI x5)] [] h (zoI r) h' := by
  intro x0 x2 x3 x4 x5 h r h' H
  unfold zm90_34 at H
  obtain ⟨x21, e22, H⟩ := zlet_e H
  refine zA_inc rfl rfl rfl (e22.trans (congrArg (_ + ·) zkk8)) (zset1 (L' := [some (zrv x0), none, some (zI x2), some (zrv x3), some (zI x4), some (zI x21)]) rfl rfl (zpcV rfl rfl)) ?_
  refine zA_go rfl rfl ?_
  exact zA_tr (L := [some (zrv x0), none, some (zI x2), some (zrv x3), some (zI x4), some (zI x21)]) rfl rfl (hk19 _ _ _ _ _ _ _ _ H)
def zm90_19 : Nat → zq → Int32 → zq → Int32 → Int32 → zH → zRs Int32
  | 0, _, _, _, _, _, _ => none
  | n + 1, x0, x2, x3, x4, x5, h =>
    if (200 : Int32) ≤ x5 then
      some (.inl x4, h)
    else
      zb (zm135 x5 h) fun x23 h22 =>
      if x23 = x2 then
        zob 0 x3 fun p25 i26 =>
        zob 11 x0 fun p29 i30 =>
        zb (zm89 x0 (zi h22 p25 i26 1) x5 h22) fun x34 h33 =>
        if x34 = x3 then
          zlet (x4 + (1 : Int32)) fun x36 =>
          zm90_34 (zm90_19 n) x0 x2 x3 x36 x5 h33
        else
          zm90_34 (zm90_19 n) x0 x2 x3 x4 x5 h33
      else
        zm90_34 (zm90_19 n) x0 x2 x3 x4 x5 h22
theorem zmS90_19 : ∀ (n : Nat) (x0 : zq) (x2 : Int32) (x3 : zq) (x4 : Int32) (x5 : Int32) (h : zH) (r : Int32 ⊕ Nat) (h' : zH), zm90_19 n x0 x2 x3 x4 x5 h = some (r, h') → zAt 90 19 [some (zrv x0), none, some (zI x2), some (zrv x3), some (zI x4), some (zI x5)] [] h (zoI r) h' := by
  intro n
  induction n with
  | zero => intro x0 x2 x3 x4 x5 h r h' H; cases H
  | succ n ih =>
    intro x0 x2 x3 x4 x5 h r h' H
    unfold zm90_19 at H
    refine zA_ld rfl rfl rfl ?_
    refine zA_push rfl rfl zkk4 ?_
    rcases zite_e H with ⟨c21, H⟩ | ⟨c21, H⟩
    · refine zA_brT (c := (200 : Int32) ≤ x5) rfl rfl rfl c21 ?_
      refine zA_tr (L := [none, none, none, none, some (zI x4), none]) rfl rfl ?_
      refine zA_ld rfl rfl rfl ?_
      cases H
      exact zA_ret rfl rfl
    · refine zA_brF (c := (200 : Int32) ≤ x5) rfl rfl rfl c21 ?_
      refine zA_ld rfl rfl rfl ?_
      rcases zb_e H with ⟨x23, h22, C, H⟩ | ⟨E, h22, C, H⟩
      · refine zA_callV (as := [zI x5]) (st' := []) rfl rfl rfl rfl rfl (zmE135 _) rfl (zmS135 C) ?_
        refine zA_ldn rfl rfl rfl ?_
        rcases zite_e H with ⟨c24, H⟩ | ⟨c24, H⟩
        · refine zA_brF' (c := x23 = x2) rfl rfl rfl c24 ?_
          refine zA_aldn rfl rfl rfl ?_
          refine zA_aldn rfl rfl rfl ?_
          obtain ⟨p25, i26, e27, c28, H⟩ := zob_e H
          refine zA_gf0 rfl rfl (Or.inl rfl) e27 c28 ?_
          refine zA_ld rfl rfl rfl ?_
          obtain ⟨p29, i30, e31, c32, H⟩ := zob_e H
          rcases zb_e H with ⟨x34, h33, C, H⟩ | ⟨E, h33, C, H⟩
          · refine zA_callV (as := [zrv x0, zI (zi h22 p25 i26 1), zI x5]) (st' := []) rfl rfl rfl (zrcv_Q e31 c32) rfl (zmE89 _ _ _) rfl (zmS89 C) ?_
            refine zA_aldn rfl rfl rfl ?_
            rcases zite_e H with ⟨c35, H⟩ | ⟨c35, H⟩
            · refine zA_brF' (c := x34 = x3) rfl rfl zIf_ane c35 ?_
              obtain ⟨x36, e37, H⟩ := zlet_e H
              refine zA_inc rfl rfl rfl (e37.trans (congrArg (_ + ·) zkk8)) (zset1 (L' := [some (zrv x0), none, some (zI x2), some (zrv x3), some (zI x36), some (zI x5)]) rfl rfl (zpcV rfl (zcat_rv _))) ?_
              exact zA_tr (L := [some (zrv x0), none, some (zI x2), some (zrv x3), some (zI x36), some (zI x5)]) rfl rfl (zmS90_34 ih _ _ _ _ _ _ _ _ H)
            · refine zA_brT' (c := x34 = x3) rfl rfl zIf_ane c35 ?_
              exact zA_tr (L := [some (zrv x0), none, some (zI x2), some (zrv x3), some (zI x4), some (zI x5)]) rfl rfl (zmS90_34 ih _ _ _ _ _ _ _ _ H)
          · cases H
            exact zA_callX (as := [zrv x0, zI (zi h22 p25 i26 1), zI x5]) (st' := []) rfl rfl (zrcv_Q e31 c32) rfl (zmE89 _ _ _) rfl rfl rfl (zmS89 C)
        · refine zA_brT' (c := x23 = x2) rfl rfl rfl c24 ?_
          exact zA_tr (L := [some (zrv x0), none, some (zI x2), some (zrv x3), some (zI x4), some (zI x5)]) rfl rfl (zmS90_34 ih _ _ _ _ _ _ _ _ H)
      · cases H
        exact zA_callX (as := [zI x5]) (st' := []) rfl rfl rfl rfl (zmE135 _) rfl rfl rfl (zmS135 C)
-- 90: ReleaseHouse.seers(II)I
def zm90 (x0 : zq) (x1 : Int32) (x2 : Int32) (h : zH) : zRs Int32 :=
  zob 11 x0 fun p21 i22 =>
  zlz (zr h p21 i22 0) h fun v30 =>
  zb (zm130 x1 v30 h) fun _ h32 =>
  zb (zm131 x2 (0 : Int32) (2 : Int32) h32) fun _ h33 =>
  zlg (zr h33 p21 i22 0) x1 h33 fun v40 =>
  zob 0 v40 fun p42 i43 =>
  zm90_19 zN0 x0 x2 v40 (0 : Int32) (0 : Int32) h33
theorem zmS90 {x0 : zq} {x1 : Int32} {x2 : Int32} {h : zH} {r : Int32 ⊕ Nat} {h' : zH} (H : zm90 x0 x1 x2 h = some (r, h')) : zAt 90 0 [some (zrv x0), some (zI x1), some (zI x2), none, none, none] [] h (zoI r) h' := by
  unfold zm90 at H
  refine zA_ldn rfl rfl rfl ?_
  refine zA_aldn rfl rfl rfl ?_
  obtain ⟨p21, i22, e23, c24, H⟩ := zob_e H
  refine zA_gf3 rfl rfl e23 c24 ?_
  obtain ⟨p25, i26, v30, e27, c28, c29, e31, H⟩ := zlz_e H
  refine zA_l2 rfl rfl rfl e27 c28 c29 e31 ?_
  rcases zb_e H with ⟨u47, h32, C, H⟩ | ⟨E, h32, C, H⟩
  · refine zA_callU (as := [zI x1, zI v30]) (st' := []) rfl rfl rfl rfl rfl (zmE130 _ _) rfl (zmS130 C) ?_
    refine zA_ldn rfl rfl rfl ?_
    refine zA_push rfl rfl zkk7 ?_
    refine zA_push rfl rfl zkk15 ?_
    rcases zb_e H with ⟨u46, h33, C, H⟩ | ⟨E, h33, C, H⟩
    · refine zA_callU (as := [zI x2, zI (0 : Int32), zI (2 : Int32)]) (st' := []) rfl rfl rfl rfl rfl (zmE131 _ _ _) rfl (zmS131 C) ?_
      refine zA_aldn rfl rfl rfl ?_
      refine zA_gf3 rfl rfl e23 c24 ?_
      refine zA_ldn rfl rfl rfl ?_
      obtain ⟨p34, i35, v40, e36, c37, c38, c39, e41, H⟩ := zlg_e H
      refine zA_l3 rfl rfl rfl e36 c37 c38 c39 e41 ?_
      obtain ⟨p42, i43, e44, c45, H⟩ := zob_e H
      refine zA_cast rfl rfl e44 c45 ?_
      refine zA_astn2 rfl rfl rfl (zset1 (L' := [some (zrv x0), some (zI x1), some (zI x2), some (zrv v40), none, none]) (zcat_rv _) rfl (zpcV rfl rfl)) ?_
      refine zA_push rfl rfl zkk7 ?_
      refine zA_ist2 rfl rfl rfl (zset1 (L' := [some (zrv x0), some (zI x1), some (zI x2), some (zrv v40), some (zI (0 : Int32)), none]) rfl rfl (zpcV rfl (zcat_rv _))) ?_
      refine zA_push rfl rfl zkk7 ?_
      refine zA_ist2 rfl rfl rfl (zset1 (L' := [some (zrv x0), some (zI x1), some (zI x2), some (zrv v40), some (zI (0 : Int32)), some (zI (0 : Int32))]) rfl rfl (zpcV rfl rfl)) ?_
      exact zA_tr (L := [some (zrv x0), none, some (zI x2), some (zrv v40), some (zI (0 : Int32)), some (zI (0 : Int32))]) rfl rfl (zmS90_19 zN0 _ _ _ _ _ _ _ _ H)
    · cases H
      exact zA_callX (as := [zI x2, zI (0 : Int32), zI (2 : Int32)]) (st' := []) rfl rfl rfl rfl (zmE131 _ _ _) rfl rfl rfl (zmS131 C)
  · cases H
    exact zA_callX (as := [zI x1, zI v30]) (st' := []) rfl rfl rfl rfl (zmE130 _ _) rfl rfl rfl (zmS130 C)
theorem zmE90 (x0 : zq) (x1 : Int32) (x2 : Int32) : zpad (zPr.2.1 90).1 (zil [zrv x0, zI x1, zI x2]) = [some (zrv x0), some (zI x1), some (zI x2), none, none, none] := by
  simp only [zil_A, zil_I, zil_F, zil_D, zil_N]
  rfl
def zm48_41 (k13 : zq → Int32 → Int32 → Int32 → zH → zRs Int32) (x0 : zq) (x1 : Int32) (x2 : Int32) (x3 : Int32) (h : zH) : zRs Int32 :=
  zlet (x3 + (1 : Int32)) fun x21 =>
  k13 x0 x1 x2 x21 h
theorem zmS48_41 {k13 : zq → Int32 → Int32 → Int32 → zH → zRs Int32} (hk13 : ∀ (x0 : zq) (x1 : Int32) (x2 : Int32) (x3 : Int32) (h : zH) (r : Int32 ⊕ Nat) (h' : zH), k13 x0 x1 x2 x3 h = some (r, h') → zAt 48 13 [some (zrv x0), some (zI x1), some (zI x2), some (zI x3), none, none] [] h (zoI r) h') : ∀ (x0 : zq) (x1 : Int32) (x2 : Int32) (x3 : Int32) (h : zH) (r : Int32 ⊕ Nat) (h' : zH), zm48_41 k13 x0 x1 x2 x3 h = some (r, h') → zAt 48 41 [some (zrv x0), some (zI x1), some (zI x2), some (zI x3), none, none] [] h (zoI r) h' := by
  intro x0 x1 x2 x3 h r h' H
  unfold zm48_41 at H
  obtain ⟨x21, e22, H⟩ := zlet_e H
  refine zA_inc rfl rfl rfl (e22.trans (congrArg (_ + ·) zkk8)) (zset1 (L' := [some (zrv x0), some (zI x1), some (zI x2), some (zI x21), none, none]) rfl rfl (zpcV rfl rfl)) ?_
  refine zA_go rfl rfl ?_
  exact zA_tr (L := [some (zrv x0), some (zI x1), some (zI x2), some (zI x21), none, none]) rfl rfl (hk13 _ _ _ _ _ _ _ H)
def zm48_13 (k43 : zq → Int32 → Int32 → zH → zRs Int32) : Nat → zq → Int32 → Int32 → Int32 → zH → zRs Int32
  | 0, _, _, _, _, _ => none
  | n + 1, x0, x1, x2, x3, h =>
    zob 11 x0 fun p21 i22 =>
    zlz (zr h p21 i22 0) h fun v30 =>
    if v30 ≤ x3 then
      k43 x0 x1 x2 h
    else
      zlg (zr h p21 i22 0) x2 h fun v39 =>
      zob 0 v39 fun p41 i42 =>
      zlg (zr h p21 i22 0) x3 h fun v51 =>
      zob 0 v51 fun p53 i54 =>
      if (zi h p41 i42 10) ≤ 0 then
        zm48_41 (zm48_13 k43 n) x0 x1 x2 x3 h
      else
        if (zi h p53 i54 10) ≤ 0 then
          zm48_41 (zm48_13 k43 n) x0 x1 x2 x3 h
        else
          zb (zm1 v39 v51 h) fun x60 h59 =>
          if x60 = 0 then
            zm48_41 (zm48_13 k43 n) x0 x1 x2 x3 h59
          else
            zlet (x1 + (1 : Int32)) fun x62 =>
            zm48_41 (zm48_13 k43 n) x0 x62 x2 x3 h59
theorem zmS48_13 {k43 : zq → Int32 → Int32 → zH → zRs Int32} (hk43 : ∀ (x0 : zq) (x1 : Int32) (x2 : Int32) (h : zH) (r : Int32 ⊕ Nat) (h' : zH), k43 x0 x1 x2 h = some (r, h') → zAt 48 43 [some (zrv x0), some (zI x1), some (zI x2), none, none, none] [] h (zoI r) h') : ∀ (n : Nat) (x0 : zq) (x1 : Int32) (x2 : Int32) (x3 : Int32) (h : zH) (r : Int32 ⊕ Nat) (h' : zH), zm48_13 k43 n x0 x1 x2 x3 h = some (r, h') → zAt 48 13 [some (zrv x0), some (zI x1), some (zI x2), some (zI x3), none, none] [] h (zoI r) h' := by
  intro n
  induction n with
  | zero => intro x0 x1 x2 x3 h r h' H; cases H
  | succ n ih =>
    intro x0 x1 x2 x3 h r h' H
    unfold zm48_13 at H
    refine zA_ldn rfl rfl rfl ?_
    refine zA_aldn rfl rfl rfl ?_
    obtain ⟨p21, i22, e23, c24, H⟩ := zob_e H
    refine zA_gf3 rfl rfl e23 c24 ?_
    obtain ⟨p25, i26, v30, e27, c28, c29, e31, H⟩ := zlz_e H
    refine zA_l2 rfl rfl rfl e27 c28 c29 e31 ?_
    rcases zite_e H with ⟨c32, H⟩ | ⟨c32, H⟩
    · refine zA_brT (c := v30 ≤ x3) rfl rfl rfl c32 ?_
      exact zA_tr (L := [some (zrv x0), some (zI x1), some (zI x2), none, none, none]) rfl rfl (hk43 _ _ _ _ _ _ H)
    · refine zA_brF (c := v30 ≤ x3) rfl rfl rfl c32 ?_
      refine zA_aldn rfl rfl rfl ?_
      refine zA_gf3 rfl rfl e23 c24 ?_
      refine zA_ldn rfl rfl rfl ?_
      obtain ⟨p33, i34, v39, e35, c36, c37, c38, e40, H⟩ := zlg_e H
      refine zA_l3 rfl rfl rfl e35 c36 c37 c38 e40 ?_
      obtain ⟨p41, i42, e43, c44, H⟩ := zob_e H
      refine zA_cast rfl rfl e43 c44 ?_
      refine zA_ast2 rfl rfl rfl (zset1 (L' := [some (zrv x0), some (zI x1), some (zI x2), some (zI x3), some (zrv v39), none]) (zcat_rv _) rfl (zpcV rfl rfl)) ?_
      refine zA_aldn rfl rfl rfl ?_
      refine zA_gf3 rfl rfl e23 c24 ?_
      refine zA_ldn rfl rfl rfl ?_
      obtain ⟨p45, i46, v51, e47, c48, c49, c50, e52, H⟩ := zlg_e H
      refine zA_l3 rfl rfl rfl e47 c48 c49 c50 e52 ?_
      obtain ⟨p53, i54, e55, c56, H⟩ := zob_e H
      refine zA_cast rfl rfl e55 c56 ?_
      refine zA_ast2 rfl rfl rfl (zset1 (L' := [some (zrv x0), some (zI x1), some (zI x2), some (zI x3), some (zrv v39), some (zrv v51)]) (zcat_rv _) rfl (zpcV rfl (zcat_rv _))) ?_
      refine zA_ald rfl rfl rfl ?_
      refine zA_gf0 rfl rfl (Or.inl rfl) e43 c44 ?_
      rcases zite_e H with ⟨c57, H⟩ | ⟨c57, H⟩
      · refine zA_brT (c := (zi h p41 i42 10) ≤ 0) rfl rfl rfl c57 ?_
        exact zA_tr (L := [some (zrv x0), some (zI x1), some (zI x2), some (zI x3), none, none]) rfl rfl (zmS48_41 ih _ _ _ _ _ _ _ H)
      · refine zA_brF (c := (zi h p41 i42 10) ≤ 0) rfl rfl rfl c57 ?_
        refine zA_ald rfl rfl rfl ?_
        refine zA_gf0 rfl rfl (Or.inl rfl) e55 c56 ?_
        rcases zite_e H with ⟨c58, H⟩ | ⟨c58, H⟩
        · refine zA_brT (c := (zi h p53 i54 10) ≤ 0) rfl rfl rfl c58 ?_
          exact zA_tr (L := [some (zrv x0), some (zI x1), some (zI x2), some (zI x3), none, none]) rfl rfl (zmS48_41 ih _ _ _ _ _ _ _ H)
        · refine zA_brF (c := (zi h p53 i54 10) ≤ 0) rfl rfl rfl c58 ?_
          refine zA_ald rfl rfl rfl ?_
          refine zA_ald rfl rfl rfl ?_
          rcases zb_e H with ⟨x60, h59, C, H⟩ | ⟨E, h59, C, H⟩
          · refine zA_callV (as := [zrv v39, zrv v51]) (st' := []) rfl rfl rfl (zrcv_Q e43 c44) rfl (zmE1 _ _) rfl (zmS1 C) ?_
            rcases zite_e H with ⟨c61, H⟩ | ⟨c61, H⟩
            · refine zA_brT (c := x60 = 0) rfl rfl rfl c61 ?_
              exact zA_tr (L := [some (zrv x0), some (zI x1), some (zI x2), some (zI x3), none, none]) rfl rfl (zmS48_41 ih _ _ _ _ _ _ _ H)
            · refine zA_brF (c := x60 = 0) rfl rfl rfl c61 ?_
              obtain ⟨x62, e63, H⟩ := zlet_e H
              refine zA_inc rfl rfl rfl (e63.trans (congrArg (_ + ·) zkk8)) (zset1 (L' := [some (zrv x0), some (zI x62), some (zI x2), some (zI x3), some (zrv v39), some (zrv v51)]) rfl rfl (zpcV rfl (zcat_rv _))) ?_
              exact zA_tr (L := [some (zrv x0), some (zI x62), some (zI x2), some (zI x3), none, none]) rfl rfl (zmS48_41 ih _ _ _ _ _ _ _ H)
          · cases H
            exact zA_callX (as := [zrv v39, zrv v51]) (st' := []) rfl rfl (zrcv_Q e43 c44) rfl (zmE1 _ _) rfl rfl rfl (zmS1 C)
def zm48_43 (k4 : zq → Int32 → Int32 → zH → zRs Int32) (x0 : zq) (x1 : Int32) (x2 : Int32) (h : zH) : zRs Int32 :=
  zlet (x2 + (1 : Int32)) fun x21 =>
  k4 x0 x1 x21 h
theorem zmS48_43 {k4 : zq → Int32 → Int32 → zH → zRs Int32} (hk4 : ∀ (x0 : zq) (x1 : Int32) (x2 : Int32) (h : zH) (r : Int32 ⊕ Nat) (h' : zH), k4 x0 x1 x2 h = some (r, h') → zAt 48 4 [some (zrv x0), some (zI x1), some (zI x2), none, none, none] [] h (zoI r) h') : ∀ (x0 : zq) (x1 : Int32) (x2 : Int32) (h : zH) (r : Int32 ⊕ Nat) (h' : zH), zm48_43 k4 x0 x1 x2 h = some (r, h') → zAt 48 43 [some (zrv x0), some (zI x1), some (zI x2), none, none, none] [] h (zoI r) h' := by
  intro x0 x1 x2 h r h' H
  unfold zm48_43 at H
  obtain ⟨x21, e22, H⟩ := zlet_e H
  refine zA_inc rfl rfl rfl (e22.trans (congrArg (_ + ·) zkk8)) (zset1 (L' := [some (zrv x0), some (zI x1), some (zI x21), none, none, none]) rfl rfl (zpcV rfl rfl)) ?_
  refine zA_go rfl rfl ?_
  exact zA_tr (L := [some (zrv x0), some (zI x1), some (zI x21), none, none, none]) rfl rfl (hk4 _ _ _ _ _ _ H)
def zm48_4 : Nat → zq → Int32 → Int32 → zH → zRs Int32
  | 0, _, _, _, _ => none
  | n + 1, x0, x1, x2, h =>
    zob 11 x0 fun p21 i22 =>
    zlz (zr h p21 i22 0) h fun v30 =>
    if v30 ≤ x2 then
      some (.inl x1, h)
    else
      zlet (x2 + (1 : Int32)) fun x33 =>
      zm48_13 (zm48_43 (zm48_4 n)) zN0 x0 x1 x2 x33 h
theorem zmS48_4 : ∀ (n : Nat) (x0 : zq) (x1 : Int32) (x2 : Int32) (h : zH) (r : Int32 ⊕ Nat) (h' : zH), zm48_4 n x0 x1 x2 h = some (r, h') → zAt 48 4 [some (zrv x0), some (zI x1), some (zI x2), none, none, none] [] h (zoI r) h' := by
  intro n
  induction n with
  | zero => intro x0 x1 x2 h r h' H; cases H
  | succ n ih =>
    intro x0 x1 x2 h r h' H
    unfold zm48_4 at H
    refine zA_ldn rfl rfl rfl ?_
    refine zA_aldn rfl rfl rfl ?_
    obtain ⟨p21, i22, e23, c24, H⟩ := zob_e H
    refine zA_gf3 rfl rfl e23 c24 ?_
    obtain ⟨p25, i26, v30, e27, c28, c29, e31, H⟩ := zlz_e H
    refine zA_l2 rfl rfl rfl e27 c28 c29 e31 ?_
    rcases zite_e H with ⟨c32, H⟩ | ⟨c32, H⟩
    · refine zA_brT (c := v30 ≤ x2) rfl rfl rfl c32 ?_
      refine zA_tr (L := [none, some (zI x1), none, none, none, none]) rfl rfl ?_
      refine zA_ldn rfl rfl rfl ?_
      cases H
      exact zA_ret rfl rfl
    · refine zA_brF (c := v30 ≤ x2) rfl rfl rfl c32 ?_
      refine zA_ldn rfl rfl rfl ?_
      refine zA_push rfl rfl zkk5 ?_
      refine zA_st (st' := [zI (x2 + (1 : Int32))]) rfl rfl rfl rfl ?_
      obtain ⟨x33, e34, H⟩ := zlet_e H
      refine zA_istn2 rfl rfl e34 (zset1 (L' := [some (zrv x0), some (zI x1), some (zI x2), some (zI x33), none, none]) rfl rfl (zpcV rfl rfl)) ?_
      exact zA_tr (L := [some (zrv x0), some (zI x1), some (zI x2), some (zI x33), none, none]) rfl rfl (zmS48_13 (zmS48_43 ih) zN0 _ _ _ _ _ _ _ H)
-- 48: ReleaseHouse.forbidden()I
def zm48 (x0 : zq) (h : zH) : zRs Int32 :=
  zm48_4 zN0 x0 (0 : Int32) (0 : Int32) h
theorem zmS48 {x0 : zq} {h : zH} {r : Int32 ⊕ Nat} {h' : zH} (H : zm48 x0 h = some (r, h')) : zAt 48 0 [some (zrv x0), none, none, none, none, none] [] h (zoI r) h' := by
  unfold zm48 at H
  refine zA_push rfl rfl zkk7 ?_
  refine zA_istn2 rfl rfl rfl (zset1 (L' := [some (zrv x0), some (zI (0 : Int32)), none, none, none, none]) rfl rfl (zpcV rfl (zcat_rv _))) ?_
  refine zA_push rfl rfl zkk7 ?_
  refine zA_istn2 rfl rfl rfl (zset1 (L' := [some (zrv x0), some (zI (0 : Int32)), some (zI (0 : Int32)), none, none, none]) rfl rfl (zpcV rfl rfl)) ?_
  exact zA_tr (L := [some (zrv x0), some (zI (0 : Int32)), some (zI (0 : Int32)), none, none, none]) rfl rfl (zmS48_4 zN0 _ _ _ _ _ _ H)
theorem zmE48 (x0 : zq) : zpad (zPr.2.1 48).1 (zil [zrv x0]) = [some (zrv x0), none, none, none, none, none] := by
  simp only [zil_A, zil_I, zil_F, zil_D, zil_N]
  rfl
-- 84: ReleaseHouse.effects()I
def zm84 (x0 : zq) (h : zH) : zRs Int32 :=
  zob 11 x0 fun p21 i22 =>
  some (.inl (zi h p21 i22 14), h)
theorem zmS84 {x0 : zq} {h : zH} {r : Int32 ⊕ Nat} {h' : zH} (H : zm84 x0 h = some (r, h')) : zAt 84 0 [some (zrv x0)] [] h (zoI r) h' := by
  unfold zm84 at H
  refine zA_aldn rfl rfl rfl ?_
  obtain ⟨p21, i22, e23, c24, H⟩ := zob_e H
  refine zA_gf0 rfl rfl (Or.inl rfl) e23 c24 ?_
  cases H
  exact zA_ret rfl rfl
theorem zmE84 (x0 : zq) : zpad (zPr.2.1 84).1 (zil [zrv x0]) = [some (zrv x0)] := by
  simp only [zil_A, zil_I, zil_F, zil_D, zil_N]
  rfl
-- 87: ReleaseHouse.share(II)I
def zm87 (x0 : zq) (x1 : Int32) (x2 : Int32) (h : zH) : zRs Int32 :=
  zob 11 x0 fun p21 i22 =>
  zb (zm132 x0 x1 x2 h) fun x26 h25 =>
  zob 9 x26 fun p27 i28 =>
  some (.inl (zi h25 p27 i28 2), h25)
theorem zmS87 {x0 : zq} {x1 : Int32} {x2 : Int32} {h : zH} {r : Int32 ⊕ Nat} {h' : zH} (H : zm87 x0 x1 x2 h = some (r, h')) : zAt 87 0 [some (zrv x0), some (zI x1), some (zI x2)] [] h (zoI r) h' := by
  unfold zm87 at H
  refine zA_aldn rfl rfl rfl ?_
  refine zA_ldn rfl rfl rfl ?_
  refine zA_ldn rfl rfl rfl ?_
  obtain ⟨p21, i22, e23, c24, H⟩ := zob_e H
  rcases zb_e H with ⟨x26, h25, C, H⟩ | ⟨E, h25, C, H⟩
  · refine zA_callV (as := [zrv x0, zI x1, zI x2]) (st' := []) rfl rfl rfl (zrcv_Q e23 c24) rfl (zmE132 _ _ _) rfl (zmS132 C) ?_
    obtain ⟨p27, i28, e29, c30, H⟩ := zob_e H
    refine zA_gf0 rfl rfl (Or.inl rfl) e29 c30 ?_
    cases H
    exact zA_ret rfl rfl
  · cases H
    exact zA_callX (as := [zrv x0, zI x1, zI x2]) (st' := []) rfl rfl (zrcv_Q e23 c24) rfl (zmE132 _ _ _) rfl rfl rfl (zmS132 C)
theorem zmE87 (x0 : zq) (x1 : Int32) (x2 : Int32) : zpad (zPr.2.1 87).1 (zil [zrv x0, zI x1, zI x2]) = [some (zrv x0), some (zI x1), some (zI x2)] := by
  simp only [zil_A, zil_I, zil_F, zil_D, zil_N]
  rfl
-- 103: ReleaseHouse.verdict(II)I
def zm103 (x0 : zq) (x1 : Int32) (x2 : Int32) (h : zH) : zRs Int32 :=
  zob 11 x0 fun p21 i22 =>
  zb (zm132 x0 x1 x2 h) fun x26 h25 =>
  zob 9 x26 fun p27 i28 =>
  zb (zm34 x26 h25) fun x32 h31 =>
  some (.inl x32, h31)
theorem zmS103 {x0 : zq} {x1 : Int32} {x2 : Int32} {h : zH} {r : Int32 ⊕ Nat} {h' : zH} (H : zm103 x0 x1 x2 h = some (r, h')) : zAt 103 0 [some (zrv x0), some (zI x1), some (zI x2)] [] h (zoI r) h' := by
  unfold zm103 at H
  refine zA_aldn rfl rfl rfl ?_
  refine zA_ldn rfl rfl rfl ?_
  refine zA_ldn rfl rfl rfl ?_
  obtain ⟨p21, i22, e23, c24, H⟩ := zob_e H
  rcases zb_e H with ⟨x26, h25, C, H⟩ | ⟨E, h25, C, H⟩
  · refine zA_callV (as := [zrv x0, zI x1, zI x2]) (st' := []) rfl rfl rfl (zrcv_Q e23 c24) rfl (zmE132 _ _ _) rfl (zmS132 C) ?_
    obtain ⟨p27, i28, e29, c30, H⟩ := zob_e H
    rcases zb_e H with ⟨x32, h31, C, H⟩ | ⟨E, h31, C, H⟩
    · refine zA_callV (as := [zrv x26]) (st' := []) rfl rfl rfl (zrcv_Q e29 c30) rfl (zmE34 _) rfl (zmS34 C) ?_
      cases H
      exact zA_ret rfl rfl
    · cases H
      exact zA_callX (as := [zrv x26]) (st' := []) rfl rfl (zrcv_Q e29 c30) rfl (zmE34 _) rfl rfl rfl (zmS34 C)
  · cases H
    exact zA_callX (as := [zrv x0, zI x1, zI x2]) (st' := []) rfl rfl (zrcv_Q e23 c24) rfl (zmE132 _ _ _) rfl rfl rfl (zmS132 C)
theorem zmE103 (x0 : zq) (x1 : Int32) (x2 : Int32) : zpad (zPr.2.1 103).1 (zil [zrv x0, zI x1, zI x2]) = [some (zrv x0), some (zI x1), some (zI x2)] := by
  simp only [zil_A, zil_I, zil_F, zil_D, zil_N]
  rfl
def zm22_25 (k9 : zq → Int32 → Int32 → Int32 → zH → zRs Int32) (x0 : zq) (x1 : Int32) (x3 : Int32) (s0 : Int32) (s1 : Int32) (h : zH) : zRs Int32 :=
  zlet (s0 + s1) fun x21 =>
  zlet (x3 + (1 : Int32)) fun x23 =>
  k9 x0 x1 x21 x23 h
theorem zmS22_25 {k9 : zq → Int32 → Int32 → Int32 → zH → zRs Int32} (hk9 : ∀ (x0 : zq) (x1 : Int32) (x2 : Int32) (x3 : Int32) (h : zH) (r : Int32 ⊕ Nat) (h' : zH), k9 x0 x1 x2 x3 h = some (r, h') → zAt 22 9 [some (zrv x0), some (zI x1), some (zI x2), some (zI x3)] [] h (zoI r) h') : ∀ (x0 : zq) (x1 : Int32) (x3 : Int32) (s0 : Int32) (s1 : Int32) (h : zH) (r : Int32 ⊕ Nat) (h' : zH), zm22_25 k9 x0 x1 x3 s0 s1 h = some (r, h') → zAt 22 25 [some (zrv x0), some (zI x1), none, some (zI x3)] [zI s1, zI s0] h (zoI r) h' := by
  intro x0 x1 x3 s0 s1 h r h' H
  unfold zm22_25 at H
  refine zA_st (st' := [zI (s0 + s1)]) rfl rfl rfl rfl ?_
  obtain ⟨x21, e22, H⟩ := zlet_e H
  refine zA_istn2 rfl rfl e22 (zset1 (L' := [some (zrv x0), some (zI x1), some (zI x21), some (zI x3)]) rfl rfl (zpcV rfl rfl)) ?_
  obtain ⟨x23, e24, H⟩ := zlet_e H
  refine zA_inc rfl rfl rfl (e24.trans (congrArg (_ + ·) zkk8)) (zset1 (L' := [some (zrv x0), some (zI x1), some (zI x21), some (zI x23)]) rfl rfl (zpcV rfl rfl)) ?_
  refine zA_go rfl rfl ?_
  exact zA_tr (L := [some (zrv x0), some (zI x1), some (zI x21), some (zI x23)]) rfl rfl (hk9 _ _ _ _ _ _ _ H)
def zm22_9 (k29 : zq → Int32 → Int32 → zH → zRs Int32) : Nat → zq → Int32 → Int32 → Int32 → zH → zRs Int32
  | 0, _, _, _, _, _ => none
  | n + 1, x0, x1, x2, x3, h =>
    zob 7 x0 fun p21 i22 =>
    if (zi h p21 i22 1) ≤ x3 then
      k29 x0 x1 x2 h
    else
      zri (zr h p21 i22 0) x3 h fun v33 =>
      if x1 < (v33 >>> ((1 : Int32) &&& 31)) then
        zm22_25 (zm22_9 k29 n) x0 x1 x3 x2 (0 : Int32) h
      else
        zm22_25 (zm22_9 k29 n) x0 x1 x3 x2 (1 : Int32) h
theorem zmS22_9 {k29 : zq → Int32 → Int32 → zH → zRs Int32} (hk29 : ∀ (x0 : zq) (x1 : Int32) (x2 : Int32) (h : zH) (r : Int32 ⊕ Nat) (h' : zH), k29 x0 x1 x2 h = some (r, h') → zAt 22 29 [some (zrv x0), some (zI x1), some (zI x2), none] [] h (zoI r) h') : ∀ (n : Nat) (x0 : zq) (x1 : Int32) (x2 : Int32) (x3 : Int32) (h : zH) (r : Int32 ⊕ Nat) (h' : zH), zm22_9 k29 n x0 x1 x2 x3 h = some (r, h') → zAt 22 9 [some (zrv x0), some (zI x1), some (zI x2), some (zI x3)] [] h (zoI r) h' := by
  intro n
  induction n with
  | zero => intro x0 x1 x2 x3 h r h' H; cases H
  | succ n ih =>
    intro x0 x1 x2 x3 h r h' H
    unfold zm22_9 at H
    refine zA_ldn rfl rfl rfl ?_
    refine zA_aldn rfl rfl rfl ?_
    obtain ⟨p21, i22, e23, c24, H⟩ := zob_e H
    refine zA_gf0 rfl rfl (Or.inl rfl) e23 c24 ?_
    rcases zite_e H with ⟨c25, H⟩ | ⟨c25, H⟩
    · refine zA_brT (c := (zi h p21 i22 1) ≤ x3) rfl rfl rfl c25 ?_
      exact zA_tr (L := [some (zrv x0), some (zI x1), some (zI x2), none]) rfl rfl (hk29 _ _ _ _ _ _ H)
    · refine zA_brF (c := (zi h p21 i22 1) ≤ x3) rfl rfl rfl c25 ?_
      refine zA_ldn rfl rfl rfl ?_
      refine zA_aldn rfl rfl rfl ?_
      refine zA_gf3 rfl rfl e23 c24 ?_
      refine zA_ldn rfl rfl rfl ?_
      obtain ⟨p26, i27, j28, v33, e29, c30, c31, e32, e34, H⟩ := zri_e H
      refine zA_ial rfl rfl e29 c30 c31 e32 e34 ?_
      refine zA_push rfl rfl zkk5 ?_
      refine zA_st (st' := [zI (v33 >>> ((1 : Int32) &&& 31)), zI x2]) rfl rfl rfl rfl ?_
      refine zA_ldn rfl rfl rfl ?_
      rcases zite_e H with ⟨c35, H⟩ | ⟨c35, H⟩
      · refine zA_brT (c := x1 < (v33 >>> ((1 : Int32) &&& 31))) rfl rfl rfl c35 ?_
        refine zA_tr (L := [some (zrv x0), some (zI x1), none, some (zI x3)]) rfl rfl ?_
        refine zA_push rfl rfl zkk7 ?_
        exact zA_tr (L := [some (zrv x0), some (zI x1), none, some (zI x3)]) rfl rfl (zmS22_25 ih _ _ _ _ _ _ _ _ H)
      · refine zA_brF (c := x1 < (v33 >>> ((1 : Int32) &&& 31))) rfl rfl rfl c35 ?_
        refine zA_push rfl rfl zkk5 ?_
        refine zA_go rfl rfl ?_
        exact zA_tr (L := [some (zrv x0), some (zI x1), none, some (zI x3)]) rfl rfl (zmS22_25 ih _ _ _ _ _ _ _ _ H)
def zm22_29 (k2 : zq → Int32 → zH → zRs Int32) (x0 : zq) (x1 : Int32) (x2 : Int32) (h : zH) : zRs Int32 :=
  zob 7 x0 fun p21 i22 =>
  zb (zm23 x0 x2 h) fun x26 h25 =>
  if x26 = 0 then
    zlet (x1 + (1 : Int32)) fun x28 =>
    k2 x0 x28 h25
  else
    some (.inl x1, h25)
theorem zmS22_29 {k2 : zq → Int32 → zH → zRs Int32} (hk2 : ∀ (x0 : zq) (x1 : Int32) (h : zH) (r : Int32 ⊕ Nat) (h' : zH), k2 x0 x1 h = some (r, h') → zAt 22 2 [some (zrv x0), some (zI x1), none, none] [] h (zoI r) h') : ∀ (x0 : zq) (x1 : Int32) (x2 : Int32) (h : zH) (r : Int32 ⊕ Nat) (h' : zH), zm22_29 k2 x0 x1 x2 h = some (r, h') → zAt 22 29 [some (zrv x0), some (zI x1), some (zI x2), none] [] h (zoI r) h' := by
  intro x0 x1 x2 h r h' H
  unfold zm22_29 at H
  refine zA_aldn rfl rfl rfl ?_
  refine zA_ldn rfl rfl rfl ?_
  obtain ⟨p21, i22, e23, c24, H⟩ := zob_e H
  rcases zb_e H with ⟨x26, h25, C, H⟩ | ⟨E, h25, C, H⟩
  · refine zA_callV (as := [zrv x0, zI x2]) (st' := []) rfl rfl rfl (zrcv_Q e23 c24) rfl (zmE23 _ _) rfl (zmS23 C) ?_
    rcases zite_e H with ⟨c27, H⟩ | ⟨c27, H⟩
    · refine zA_brT (c := x26 = 0) rfl rfl rfl c27 ?_
      refine zA_tr (L := [some (zrv x0), some (zI x1), none, none]) rfl rfl ?_
      obtain ⟨x28, e29, H⟩ := zlet_e H
      refine zA_inc rfl rfl rfl (e29.trans (congrArg (_ + ·) zkk8)) (zset1 (L' := [some (zrv x0), some (zI x28), none, none]) rfl rfl (zpcV rfl (zcat_rv _))) ?_
      refine zA_go rfl rfl ?_
      exact zA_tr (L := [some (zrv x0), some (zI x28), none, none]) rfl rfl (hk2 _ _ _ _ _ H)
    · refine zA_brF (c := x26 = 0) rfl rfl rfl c27 ?_
      refine zA_ldn rfl rfl rfl ?_
      cases H
      exact zA_ret rfl rfl
  · cases H
    exact zA_callX (as := [zrv x0, zI x2]) (st' := []) rfl rfl (zrcv_Q e23 c24) rfl (zmE23 _ _) rfl rfl rfl (zmS23 C)
def zm22_2 : Nat → zq → Int32 → zH → zRs Int32
  | 0, _, _, _ => none
  | n + 1, x0, x1, h =>
    if (17 : Int32) ≤ x1 then
      some (.inl (16 : Int32), h)
    else
      zm22_9 (zm22_29 (zm22_2 n)) zN0 x0 x1 (0 : Int32) (0 : Int32) h
theorem zmS22_2 : ∀ (n : Nat) (x0 : zq) (x1 : Int32) (h : zH) (r : Int32 ⊕ Nat) (h' : zH), zm22_2 n x0 x1 h = some (r, h') → zAt 22 2 [some (zrv x0), some (zI x1), none, none] [] h (zoI r) h' := by
  intro n
  induction n with
  | zero => intro x0 x1 h r h' H; cases H
  | succ n ih =>
    intro x0 x1 h r h' H
    unfold zm22_2 at H
    refine zA_ldn rfl rfl rfl ?_
    refine zA_push rfl rfl zkk1 ?_
    rcases zite_e H with ⟨c21, H⟩ | ⟨c21, H⟩
    · refine zA_brT (c := (17 : Int32) ≤ x1) rfl rfl rfl c21 ?_
      refine zA_tr (L := [none, none, none, none]) rfl rfl ?_
      refine zA_push rfl rfl zkk29 ?_
      cases H
      exact zA_ret rfl rfl
    · refine zA_brF (c := (17 : Int32) ≤ x1) rfl rfl rfl c21 ?_
      refine zA_push rfl rfl zkk7 ?_
      refine zA_istn2 rfl rfl rfl (zset1 (L' := [some (zrv x0), some (zI x1), some (zI (0 : Int32)), none]) rfl rfl (zpcV rfl rfl)) ?_
      refine zA_push rfl rfl zkk7 ?_
      refine zA_istn2 rfl rfl rfl (zset1 (L' := [some (zrv x0), some (zI x1), some (zI (0 : Int32)), some (zI (0 : Int32))]) rfl rfl (zpcV rfl rfl)) ?_
      exact zA_tr (L := [some (zrv x0), some (zI x1), some (zI (0 : Int32)), some (zI (0 : Int32))]) rfl rfl (zmS22_9 (zmS22_29 ih) zN0 _ _ _ _ _ _ _ H)
-- 22: ReleaseHouse$Sample.slowBucketAnew()I
def zm22 (x0 : zq) (h : zH) : zRs Int32 :=
  zm22_2 zN0 x0 (0 : Int32) h
theorem zmS22 {x0 : zq} {h : zH} {r : Int32 ⊕ Nat} {h' : zH} (H : zm22 x0 h = some (r, h')) : zAt 22 0 [some (zrv x0), none, none, none] [] h (zoI r) h' := by
  unfold zm22 at H
  refine zA_push rfl rfl zkk7 ?_
  refine zA_istn2 rfl rfl rfl (zset1 (L' := [some (zrv x0), some (zI (0 : Int32)), none, none]) rfl rfl (zpcV rfl (zcat_rv _))) ?_
  exact zA_tr (L := [some (zrv x0), some (zI (0 : Int32)), none, none]) rfl rfl (zmS22_2 zN0 _ _ _ _ _ H)
theorem zmE22 (x0 : zq) : zpad (zPr.2.1 22).1 (zil [zrv x0]) = [some (zrv x0), none, none, none] := by
  simp only [zil_A, zil_I, zil_F, zil_D, zil_N]
  rfl
def zm35_4 (k15 : zq → UInt64 → zH → zRs Int32) : Nat → zq → UInt64 → Int32 → zH → zRs Int32
  | 0, _, _, _, _ => none
  | n + 1, x0, x1, x3, h =>
    zob 9 x0 fun p21 i22 =>
    zb (zm37 x0 h) fun x26 h25 =>
    if x26 ≤ x3 then
      k15 x0 x1 h25
    else
      zb (zm33 x0 x1 x3 h25) fun x29 h28 =>
      zlet (x3 + (1 : Int32)) fun x30 =>
      zm35_4 k15 n x0 x29 x30 h28
theorem zmS35_4 {k15 : zq → UInt64 → zH → zRs Int32} (hk15 : ∀ (x0 : zq) (x1 : UInt64) (h : zH) (r : Int32 ⊕ Nat) (h' : zH), k15 x0 x1 h = some (r, h') → zAt 35 15 [some (zrv x0), some (zD x1), none, none] [] h (zoI r) h') : ∀ (n : Nat) (x0 : zq) (x1 : UInt64) (x3 : Int32) (h : zH) (r : Int32 ⊕ Nat) (h' : zH), zm35_4 k15 n x0 x1 x3 h = some (r, h') → zAt 35 4 [some (zrv x0), some (zD x1), none, some (zI x3)] [] h (zoI r) h' := by
  intro n
  induction n with
  | zero => intro x0 x1 x3 h r h' H; cases H
  | succ n ih =>
    intro x0 x1 x3 h r h' H
    unfold zm35_4 at H
    refine zA_ldn rfl rfl rfl ?_
    refine zA_aldn rfl rfl rfl ?_
    obtain ⟨p21, i22, e23, c24, H⟩ := zob_e H
    rcases zb_e H with ⟨x26, h25, C, H⟩ | ⟨E, h25, C, H⟩
    · refine zA_callV (as := [zrv x0]) (st' := [zI x3]) rfl rfl rfl (zrcv_Q e23 c24) rfl (zmE37 _) rfl (zmS37 C) ?_
      rcases zite_e H with ⟨c27, H⟩ | ⟨c27, H⟩
      · refine zA_brT (c := x26 ≤ x3) rfl rfl rfl c27 ?_
        exact zA_tr (L := [some (zrv x0), some (zD x1), none, none]) rfl rfl (hk15 _ _ _ _ _ H)
      · refine zA_brF (c := x26 ≤ x3) rfl rfl rfl c27 ?_
        refine zA_aldn rfl rfl rfl ?_
        refine zA_dldn rfl rfl rfl ?_
        refine zA_ldn rfl rfl rfl ?_
        rcases zb_e H with ⟨x29, h28, C, H⟩ | ⟨E, h28, C, H⟩
        · refine zA_callV (as := [zrv x0, zD x1, zI x3]) (st' := []) rfl rfl rfl (zrcv_Q e23 c24) rfl (zmE33 _ _ _) rfl (zmS33 C) ?_
          refine zA_dstn2 rfl rfl rfl (zset2 (L' := [some (zrv x0), some (zD x29), none, some (zI x3)]) rfl rfl (zpcV rfl (zcat_rv _)) rfl) ?_
          obtain ⟨x30, e31, H⟩ := zlet_e H
          refine zA_inc rfl rfl rfl (e31.trans (congrArg (_ + ·) zkk8)) (zset1 (L' := [some (zrv x0), some (zD x29), none, some (zI x30)]) rfl rfl (zpcN rfl)) ?_
          refine zA_go rfl rfl ?_
          exact zA_tr (L := [some (zrv x0), some (zD x29), none, some (zI x30)]) rfl rfl (ih _ _ _ _ _ _ H)
        · cases H
          exact zA_callX (as := [zrv x0, zD x1, zI x3]) (st' := []) rfl rfl (zrcv_Q e23 c24) rfl (zmE33 _ _ _) rfl rfl rfl (zmS33 C)
    · cases H
      exact zA_callX (as := [zrv x0]) (st' := [zI x3]) rfl rfl (zrcv_Q e23 c24) rfl (zmE37 _) rfl rfl rfl (zmS37 C)
def zm35_15 (x0 : zq) (x1 : UInt64) (h : zH) : zRs Int32 :=
  zob 9 x0 fun p21 i22 =>
  zob 7 (zr h p21 i22 5) fun p25 i26 =>
  zb (zm22 (zr h p21 i22 5) h) fun x30 h29 =>
  zob 7 (zr h29 p21 i22 6) fun p31 i32 =>
  zb (zm22 (zr h29 p21 i22 6) h29) fun x36 h35 =>
  zb (zm36 x0 x1 x30 x36 h35) fun x38 h37 =>
  some (.inl x38, h37)
theorem zmS35_15 : ∀ (x0 : zq) (x1 : UInt64) (h : zH) (r : Int32 ⊕ Nat) (h' : zH), zm35_15 x0 x1 h = some (r, h') → zAt 35 15 [some (zrv x0), some (zD x1), none, none] [] h (zoI r) h' := by
  intro x0 x1 h r h' H
  unfold zm35_15 at H
  refine zA_aldn rfl rfl rfl ?_
  refine zA_dldn rfl rfl rfl ?_
  refine zA_aldn rfl rfl rfl ?_
  obtain ⟨p21, i22, e23, c24, H⟩ := zob_e H
  refine zA_gf3 rfl rfl e23 c24 ?_
  obtain ⟨p25, i26, e27, c28, H⟩ := zob_e H
  rcases zb_e H with ⟨x30, h29, C, H⟩ | ⟨E, h29, C, H⟩
  · refine zA_callV (as := [zrv (zr h p21 i22 5)]) (st' := [zD x1, zrv x0]) rfl rfl rfl (zrcv_Q e27 c28) rfl (zmE22 _) rfl (zmS22 C) ?_
    refine zA_aldn rfl rfl rfl ?_
    refine zA_gf3 rfl rfl e23 c24 ?_
    obtain ⟨p31, i32, e33, c34, H⟩ := zob_e H
    rcases zb_e H with ⟨x36, h35, C, H⟩ | ⟨E, h35, C, H⟩
    · refine zA_callV (as := [zrv (zr h29 p21 i22 6)]) (st' := [zI x30, zD x1, zrv x0]) rfl rfl rfl (zrcv_Q e33 c34) rfl (zmE22 _) rfl (zmS22 C) ?_
      rcases zb_e H with ⟨x38, h37, C, H⟩ | ⟨E, h37, C, H⟩
      · refine zA_callV (as := [zrv x0, zD x1, zI x30, zI x36]) (st' := []) rfl rfl rfl (zrcv_Q e23 c24) rfl (zmE36 _ _ _ _) rfl (zmS36 C) ?_
        cases H
        exact zA_ret rfl rfl
      · cases H
        exact zA_callX (as := [zrv x0, zD x1, zI x30, zI x36]) (st' := []) rfl rfl (zrcv_Q e23 c24) rfl (zmE36 _ _ _ _) rfl rfl rfl (zmS36 C)
    · cases H
      exact zA_callX (as := [zrv (zr h29 p21 i22 6)]) (st' := [zI x30, zD x1, zrv x0]) rfl rfl (zrcv_Q e33 c34) rfl (zmE22 _) rfl rfl rfl (zmS22 C)
  · cases H
    exact zA_callX (as := [zrv (zr h p21 i22 5)]) (st' := [zD x1, zrv x0]) rfl rfl (zrcv_Q e27 c28) rfl (zmE22 _) rfl rfl rfl (zmS22 C)
-- 35: ReleaseHouse$Spot.judgementAnew()I
def zm35 (x0 : zq) (h : zH) : zRs Int32 :=
  zm35_4 (zm35_15) zN0 x0 (4607182418800017408 : UInt64) (0 : Int32) h
theorem zmS35 {x0 : zq} {h : zH} {r : Int32 ⊕ Nat} {h' : zH} (H : zm35 x0 h = some (r, h')) : zAt 35 0 [some (zrv x0), none, none, none] [] h (zoI r) h' := by
  unfold zm35 at H
  refine zA_push rfl rfl zkk2 ?_
  refine zA_dstn2 rfl rfl rfl (zset2 (L' := [some (zrv x0), some (zD (4607182418800017408 : UInt64)), none, none]) rfl rfl (zpcV rfl (zcat_rv _)) rfl) ?_
  refine zA_push rfl rfl zkk7 ?_
  refine zA_istn2 rfl rfl rfl (zset1 (L' := [some (zrv x0), some (zD (4607182418800017408 : UInt64)), none, some (zI (0 : Int32))]) rfl rfl (zpcN rfl)) ?_
  exact zA_tr (L := [some (zrv x0), some (zD (4607182418800017408 : UInt64)), none, some (zI (0 : Int32))]) rfl rfl (zmS35_4 (zmS35_15) zN0 _ _ _ _ _ _ H)
theorem zmE35 (x0 : zq) : zpad (zPr.2.1 35).1 (zil [zrv x0]) = [some (zrv x0), none, none, none] := by
  simp only [zil_A, zil_I, zil_F, zil_D, zil_N]
  rfl
-- 104: ReleaseHouse.verdictByAll(II)I
def zm104 (x0 : zq) (x1 : Int32) (x2 : Int32) (h : zH) : zRs Int32 :=
  zob 11 x0 fun p21 i22 =>
  zb (zm132 x0 x1 x2 h) fun x26 h25 =>
  zob 9 x26 fun p27 i28 =>
  zb (zm35 x26 h25) fun x32 h31 =>
  some (.inl x32, h31)
theorem zmS104 {x0 : zq} {x1 : Int32} {x2 : Int32} {h : zH} {r : Int32 ⊕ Nat} {h' : zH} (H : zm104 x0 x1 x2 h = some (r, h')) : zAt 104 0 [some (zrv x0), some (zI x1), some (zI x2)] [] h (zoI r) h' := by
  unfold zm104 at H
  refine zA_aldn rfl rfl rfl ?_
  refine zA_ldn rfl rfl rfl ?_
  refine zA_ldn rfl rfl rfl ?_
  obtain ⟨p21, i22, e23, c24, H⟩ := zob_e H
  rcases zb_e H with ⟨x26, h25, C, H⟩ | ⟨E, h25, C, H⟩
  · refine zA_callV (as := [zrv x0, zI x1, zI x2]) (st' := []) rfl rfl rfl (zrcv_Q e23 c24) rfl (zmE132 _ _ _) rfl (zmS132 C) ?_
    obtain ⟨p27, i28, e29, c30, H⟩ := zob_e H
    rcases zb_e H with ⟨x32, h31, C, H⟩ | ⟨E, h31, C, H⟩
    · refine zA_callV (as := [zrv x26]) (st' := []) rfl rfl rfl (zrcv_Q e29 c30) rfl (zmE35 _) rfl (zmS35 C) ?_
      cases H
      exact zA_ret rfl rfl
    · cases H
      exact zA_callX (as := [zrv x26]) (st' := []) rfl rfl (zrcv_Q e29 c30) rfl (zmE35 _) rfl rfl rfl (zmS35 C)
  · cases H
    exact zA_callX (as := [zrv x0, zI x1, zI x2]) (st' := []) rfl rfl (zrcv_Q e23 c24) rfl (zmE132 _ _ _) rfl rfl rfl (zmS132 C)
theorem zmE104 (x0 : zq) (x1 : Int32) (x2 : Int32) : zpad (zPr.2.1 104).1 (zil [zrv x0, zI x1, zI x2]) = [some (zrv x0), some (zI x1), some (zI x2)] := by
  simp only [zil_A, zil_I, zil_F, zil_D, zil_N]
  rfl
-- 102: ReleaseHouse.capital(II)D
def zm102 (x0 : zq) (x1 : Int32) (x2 : Int32) (h : zH) : zRs UInt64 :=
  zob 11 x0 fun p21 i22 =>
  zb (zm132 x0 x1 x2 h) fun x26 h25 =>
  zob 9 x26 fun p27 i28 =>
  some (.inl (zd h25 p27 i28 4), h25)
theorem zmS102 {x0 : zq} {x1 : Int32} {x2 : Int32} {h : zH} {r : UInt64 ⊕ Nat} {h' : zH} (H : zm102 x0 x1 x2 h = some (r, h')) : zAt 102 0 [some (zrv x0), some (zI x1), some (zI x2)] [] h (zoD r) h' := by
  unfold zm102 at H
  refine zA_aldn rfl rfl rfl ?_
  refine zA_ldn rfl rfl rfl ?_
  refine zA_ldn rfl rfl rfl ?_
  obtain ⟨p21, i22, e23, c24, H⟩ := zob_e H
  rcases zb_e H with ⟨x26, h25, C, H⟩ | ⟨E, h25, C, H⟩
  · refine zA_callV (as := [zrv x0, zI x1, zI x2]) (st' := []) rfl rfl rfl (zrcv_Q e23 c24) rfl (zmE132 _ _ _) rfl (zmS132 C) ?_
    obtain ⟨p27, i28, e29, c30, H⟩ := zob_e H
    refine zA_gf2 rfl rfl e29 c30 ?_
    cases H
    exact zA_ret rfl rfl
  · cases H
    exact zA_callX (as := [zrv x0, zI x1, zI x2]) (st' := []) rfl rfl (zrcv_Q e23 c24) rfl (zmE132 _ _ _) rfl rfl rfl (zmS132 C)
theorem zmE102 (x0 : zq) (x1 : Int32) (x2 : Int32) : zpad (zPr.2.1 102).1 (zil [zrv x0, zI x1, zI x2]) = [some (zrv x0), some (zI x1), some (zI x2)] := by
  simp only [zil_A, zil_I, zil_F, zil_D, zil_N]
  rfl
def zm93_37 (k15 : zq → Int32 → Int32 → zH → zRs Int32) (x0 : zq) (x1 : Int32) (x4 : Int32) (h : zH) : zRs Int32 :=
  zlet (x4 + (1 : Int32)) fun x21 =>
  k15 x0 x1 x21 h
theorem zmS93_37 {k15 : zq → Int32 → Int32 → zH → zRs Int32} (hk15 : ∀ (x0 : zq) (x1 : Int32) (x4 : Int32) (h : zH) (r : Int32 ⊕ Nat) (h' : zH), k15 x0 x1 x4 h = some (r, h') → zAt 93 15 [some (zrv x0), some (zI x1), none, none, some (zI x4), none] [] h (zoI r) h') : ∀ (x0 : zq) (x1 : Int32) (x4 : Int32) (h : zH) (r : Int32 ⊕ Nat) (h' : zH), zm93_37 k15 x0 x1 x4 h = some (r, h') → zAt 93 37 [some (zrv x0), some (zI x1), none, none, some (zI x4), none] [] h (zoI r) h' := by
  intro x0 x1 x4 h r h' H
  unfold zm93_37 at H
  obtain ⟨x21, e22, H⟩ := zlet_e H
  refine zA_inc rfl rfl rfl (e22.trans (congrArg (_ + ·) zkk8)) (zset1 (L' := [some (zrv x0), some (zI x1), none, none, some (zI x21), none]) rfl rfl (zpcN rfl)) ?_
  refine zA_go rfl rfl ?_
  exact zA_tr (L := [some (zrv x0), some (zI x1), none, none, some (zI x21), none]) rfl rfl (hk15 _ _ _ _ _ _ H)
def zm93_15 : Nat → zq → Int32 → Int32 → zH → zRs Int32
  | 0, _, _, _, _ => none
  | n + 1, x0, x1, x4, h =>
    zob 11 x0 fun p21 i22 =>
    zlz (zr h p21 i22 0) h fun v30 =>
    if v30 ≤ x4 then
      some (.inl (-1 : Int32), h)
    else
      zlg (zr h p21 i22 0) x4 h fun v39 =>
      zob 0 v39 fun p41 i42 =>
      if (zi h p41 i42 1) = x1 then
        zb (zm45 x0 v39 h) fun x47 h46 =>
        if x47 = 0 then
          some (.inl (zi h46 p41 i42 0), h46)
        else
          zm93_37 (zm93_15 n) x0 x1 x4 h46
      else
        zm93_37 (zm93_15 n) x0 x1 x4 h
theorem zmS93_15 : ∀ (n : Nat) (x0 : zq) (x1 : Int32) (x4 : Int32) (h : zH) (r : Int32 ⊕ Nat) (h' : zH), zm93_15 n x0 x1 x4 h = some (r, h') → zAt 93 15 [some (zrv x0), some (zI x1), none, none, some (zI x4), none] [] h (zoI r) h' := by
  intro n
  induction n with
  | zero => intro x0 x1 x4 h r h' H; cases H
  | succ n ih =>
    intro x0 x1 x4 h r h' H
    unfold zm93_15 at H
    refine zA_ld rfl rfl rfl ?_
    refine zA_aldn rfl rfl rfl ?_
    obtain ⟨p21, i22, e23, c24, H⟩ := zob_e H
    refine zA_gf3 rfl rfl e23 c24 ?_
    obtain ⟨p25, i26, v30, e27, c28, c29, e31, H⟩ := zlz_e H
    refine zA_l2 rfl rfl rfl e27 c28 c29 e31 ?_
    rcases zite_e H with ⟨c32, H⟩ | ⟨c32, H⟩
    · refine zA_brT (c := v30 ≤ x4) rfl rfl rfl c32 ?_
      refine zA_tr (L := [none, none, none, none, none, none]) rfl rfl ?_
      refine zA_push rfl rfl zkk6 ?_
      cases H
      exact zA_ret rfl rfl
    · refine zA_brF (c := v30 ≤ x4) rfl rfl rfl c32 ?_
      refine zA_aldn rfl rfl rfl ?_
      refine zA_gf3 rfl rfl e23 c24 ?_
      refine zA_ld rfl rfl rfl ?_
      obtain ⟨p33, i34, v39, e35, c36, c37, c38, e40, H⟩ := zlg_e H
      refine zA_l3 rfl rfl rfl e35 c36 c37 c38 e40 ?_
      obtain ⟨p41, i42, e43, c44, H⟩ := zob_e H
      refine zA_cast rfl rfl e43 c44 ?_
      refine zA_ast2 rfl rfl rfl (zset1 (L' := [some (zrv x0), some (zI x1), none, none, some (zI x4), some (zrv v39)]) (zcat_rv _) rfl (zpcV rfl rfl)) ?_
      refine zA_ald rfl rfl rfl ?_
      refine zA_gf0 rfl rfl (Or.inl rfl) e43 c44 ?_
      refine zA_ldn rfl rfl rfl ?_
      rcases zite_e H with ⟨c45, H⟩ | ⟨c45, H⟩
      · refine zA_brF' (c := (zi h p41 i42 1) = x1) rfl rfl rfl c45 ?_
        refine zA_aldn rfl rfl rfl ?_
        refine zA_ald rfl rfl rfl ?_
        rcases zb_e H with ⟨x47, h46, C, H⟩ | ⟨E, h46, C, H⟩
        · refine zA_callV (as := [zrv x0, zrv v39]) (st' := []) rfl rfl rfl (zrcv_Q e23 c24) rfl (zmE45 _ _) rfl (zmS45 C) ?_
          rcases zite_e H with ⟨c48, H⟩ | ⟨c48, H⟩
          · refine zA_brF' (c := x47 = 0) rfl rfl rfl c48 ?_
            refine zA_ald rfl rfl rfl ?_
            refine zA_gf0 rfl rfl (Or.inl rfl) e43 c44 ?_
            cases H
            exact zA_ret rfl rfl
          · refine zA_brT' (c := x47 = 0) rfl rfl rfl c48 ?_
            exact zA_tr (L := [some (zrv x0), some (zI x1), none, none, some (zI x4), none]) rfl rfl (zmS93_37 ih _ _ _ _ _ _ H)
        · cases H
          exact zA_callX (as := [zrv x0, zrv v39]) (st' := []) rfl rfl (zrcv_Q e23 c24) rfl (zmE45 _ _) rfl rfl rfl (zmS45 C)
      · refine zA_brT' (c := (zi h p41 i42 1) = x1) rfl rfl rfl c45 ?_
        exact zA_tr (L := [some (zrv x0), some (zI x1), none, none, some (zI x4), none]) rfl rfl (zmS93_37 ih _ _ _ _ _ _ H)
-- 93: ReleaseHouse.wayOut(II)I
def zm93 (x0 : zq) (x1 : Int32) (x2 : Int32) (h : zH) : zRs Int32 :=
  zob 11 x0 fun p21 i22 =>
  zb (zm132 x0 x1 x2 h) fun x26 h25 =>
  zob 9 x26 fun p27 i28 =>
  zlet (zr h25 p27 i28 0) fun x31 =>
  if x31 = none then
    some (.inl (-1 : Int32), h25)
  else
    zob 0 x31 fun p34 i35 =>
    zlet ((zi h25 p34 i35 0) + (1 : Int32)) fun x38 =>
    zm93_15 zN0 x0 x1 x38 h25
theorem zmS93 {x0 : zq} {x1 : Int32} {x2 : Int32} {h : zH} {r : Int32 ⊕ Nat} {h' : zH} (H : zm93 x0 x1 x2 h = some (r, h')) : zAt 93 0 [some (zrv x0), some (zI x1), some (zI x2), none, none, none] [] h (zoI r) h' := by
  unfold zm93 at H
  refine zA_aldn rfl rfl rfl ?_
  refine zA_ldn rfl rfl rfl ?_
  refine zA_ldn rfl rfl rfl ?_
  obtain ⟨p21, i22, e23, c24, H⟩ := zob_e H
  rcases zb_e H with ⟨x26, h25, C, H⟩ | ⟨E, h25, C, H⟩
  · refine zA_callV (as := [zrv x0, zI x1, zI x2]) (st' := []) rfl rfl rfl (zrcv_Q e23 c24) rfl (zmE132 _ _ _) rfl (zmS132 C) ?_
    obtain ⟨p27, i28, e29, c30, H⟩ := zob_e H
    refine zA_gf3 rfl rfl e29 c30 ?_
    obtain ⟨x31, e32, H⟩ := zlet_e H
    refine zA_astn2 rfl rfl e32 (zset1 (L' := [some (zrv x0), some (zI x1), some (zI x2), some (zrv x31), none, none]) (zcat_rv _) rfl (zpcV rfl rfl)) ?_
    refine zA_aldn rfl rfl rfl ?_
    rcases zite_e H with ⟨c33, H⟩ | ⟨c33, H⟩
    · refine zA_brF' (c := x31 = none) rfl rfl zIf_nonnull c33 ?_
      refine zA_push rfl rfl zkk6 ?_
      cases H
      exact zA_ret rfl rfl
    · refine zA_brT' (c := x31 = none) rfl rfl zIf_nonnull c33 ?_
      refine zA_tr (L := [some (zrv x0), some (zI x1), none, some (zrv x31), none, none]) rfl rfl ?_
      refine zA_aldn rfl rfl rfl ?_
      obtain ⟨p34, i35, e36, c37, H⟩ := zob_e H
      refine zA_gf0 rfl rfl (Or.inl rfl) e36 c37 ?_
      refine zA_push rfl rfl zkk5 ?_
      refine zA_st (st' := [zI ((zi h25 p34 i35 0) + (1 : Int32))]) rfl rfl rfl rfl ?_
      obtain ⟨x38, e39, H⟩ := zlet_e H
      refine zA_ist2 rfl rfl e39 (zset1 (L' := [some (zrv x0), some (zI x1), none, some (zrv x31), some (zI x38), none]) rfl rfl (zpcV rfl (zcat_rv _))) ?_
      exact zA_tr (L := [some (zrv x0), some (zI x1), none, none, some (zI x38), none]) rfl rfl (zmS93_15 zN0 _ _ _ _ _ _ H)
  · cases H
    exact zA_callX (as := [zrv x0, zI x1, zI x2]) (st' := []) rfl rfl (zrcv_Q e23 c24) rfl (zmE132 _ _ _) rfl rfl rfl (zmS132 C)
theorem zmE93 (x0 : zq) (x1 : Int32) (x2 : Int32) : zpad (zPr.2.1 93).1 (zil [zrv x0, zI x1, zI x2]) = [some (zrv x0), some (zI x1), some (zI x2), none, none, none] := by
  simp only [zil_A, zil_I, zil_F, zil_D, zil_N]
  rfl
-- 44: ReleaseHouse.mayGo(I)I
def zm44 (x0 : zq) (x1 : Int32) (h : zH) : zRs Int32 :=
  zob 11 x0 fun p21 i22 =>
  zlz (zr h p21 i22 0) h fun v30 =>
  zb (zm130 x1 v30 h) fun _ h32 =>
  zlg (zr h32 p21 i22 0) x1 h32 fun v39 =>
  zob 0 v39 fun p41 i42 =>
  zb (zm45 x0 v39 h32) fun x46 h45 =>
  some (.inl x46, h45)
theorem zmS44 {x0 : zq} {x1 : Int32} {h : zH} {r : Int32 ⊕ Nat} {h' : zH} (H : zm44 x0 x1 h = some (r, h')) : zAt 44 0 [some (zrv x0), some (zI x1)] [] h (zoI r) h' := by
  unfold zm44 at H
  refine zA_ldn rfl rfl rfl ?_
  refine zA_aldn rfl rfl rfl ?_
  obtain ⟨p21, i22, e23, c24, H⟩ := zob_e H
  refine zA_gf3 rfl rfl e23 c24 ?_
  obtain ⟨p25, i26, v30, e27, c28, c29, e31, H⟩ := zlz_e H
  refine zA_l2 rfl rfl rfl e27 c28 c29 e31 ?_
  rcases zb_e H with ⟨u47, h32, C, H⟩ | ⟨E, h32, C, H⟩
  · refine zA_callU (as := [zI x1, zI v30]) (st' := []) rfl rfl rfl rfl rfl (zmE130 _ _) rfl (zmS130 C) ?_
    refine zA_aldn rfl rfl rfl ?_
    refine zA_aldn rfl rfl rfl ?_
    refine zA_gf3 rfl rfl e23 c24 ?_
    refine zA_ldn rfl rfl rfl ?_
    obtain ⟨p33, i34, v39, e35, c36, c37, c38, e40, H⟩ := zlg_e H
    refine zA_l3 rfl rfl rfl e35 c36 c37 c38 e40 ?_
    obtain ⟨p41, i42, e43, c44, H⟩ := zob_e H
    refine zA_cast rfl rfl e43 c44 ?_
    rcases zb_e H with ⟨x46, h45, C, H⟩ | ⟨E, h45, C, H⟩
    · refine zA_callV (as := [zrv x0, zrv v39]) (st' := []) rfl rfl rfl (zrcv_Q e23 c24) rfl (zmE45 _ _) rfl (zmS45 C) ?_
      cases H
      exact zA_ret rfl rfl
    · cases H
      exact zA_callX (as := [zrv x0, zrv v39]) (st' := []) rfl rfl (zrcv_Q e23 c24) rfl (zmE45 _ _) rfl rfl rfl (zmS45 C)
  · cases H
    exact zA_callX (as := [zI x1, zI v30]) (st' := []) rfl rfl rfl rfl (zmE130 _ _) rfl rfl rfl (zmS130 C)
theorem zmE44 (x0 : zq) (x1 : Int32) : zpad (zPr.2.1 44).1 (zil [zrv x0, zI x1]) = [some (zrv x0), some (zI x1)] := by
  simp only [zil_A, zil_I, zil_F, zil_D, zil_N]
  rfl
def zm243_71 (x0 : zq) (x1 : Int32) (x2 : Int32) (x3 : Int32) (s0 : Int32) (h : zH) : zRs Int32 :=
  zob 11 x0 fun p21 i22 =>
  zb (zm93 x0 x1 x2 h) fun x26 h25 =>
  if s0 = 0 then
    some (.inl (0 : Int32), h25)
  else
    if x26 < 0 then
      some (.inl (1 : Int32), h25)
    else
      if x26 ≤ x3 then
        some (.inl (0 : Int32), h25)
      else
        zb (zm44 x0 x26 h25) fun x31 h30 =>
        if x31 = 0 then
          some (.inl (1 : Int32), h30)
        else
          some (.inl (0 : Int32), h30)
theorem zmS243_71 : ∀ (x0 : zq) (x1 : Int32) (x2 : Int32) (x3 : Int32) (s0 : Int32) (h : zH) (r : Int32 ⊕ Nat) (h' : zH), zm243_71 x0 x1 x2 x3 s0 h = some (r, h') → zAt 243 71 [some (zrv x0), some (zI x1), some (zI x2), some (zI x3), none, none, none, none] [zI s0] h (zoI r) h' := by
  intro x0 x1 x2 x3 s0 h r h' H
  unfold zm243_71 at H
  refine zA_ist2 rfl rfl rfl (zset1 (L' := [some (zrv x0), some (zI x1), some (zI x2), some (zI x3), none, none, some (zI s0), none]) rfl rfl (zpcN rfl)) ?_
  refine zA_aldn rfl rfl rfl ?_
  refine zA_ldn rfl rfl rfl ?_
  refine zA_ldn rfl rfl rfl ?_
  obtain ⟨p21, i22, e23, c24, H⟩ := zob_e H
  rcases zb_e H with ⟨x26, h25, C, H⟩ | ⟨E, h25, C, H⟩
  · refine zA_callV (as := [zrv x0, zI x1, zI x2]) (st' := []) rfl rfl rfl (zrcv_Q e23 c24) rfl (zmE93 _ _ _) rfl (zmS93 C) ?_
    refine zA_ist2 rfl rfl rfl (zset1 (L' := [some (zrv x0), some (zI x1), some (zI x2), some (zI x3), none, none, some (zI s0), some (zI x26)]) rfl rfl (zpcV rfl rfl)) ?_
    refine zA_ld rfl rfl rfl ?_
    rcases zite_e H with ⟨c27, H⟩ | ⟨c27, H⟩
    · refine zA_brT (c := s0 = 0) rfl rfl rfl c27 ?_
      refine zA_tr (L := [none, none, none, none, none, none, none, none]) rfl rfl ?_
      refine zA_push rfl rfl zkk7 ?_
      cases H
      exact zA_ret rfl (zret_Z (by decide))
    · refine zA_brF (c := s0 = 0) rfl rfl rfl c27 ?_
      refine zA_ld rfl rfl rfl ?_
      rcases zite_e H with ⟨c28, H⟩ | ⟨c28, H⟩
      · refine zA_brT (c := x26 < 0) rfl rfl rfl c28 ?_
        refine zA_tr (L := [none, none, none, none, none, none, none, none]) rfl rfl ?_
        refine zA_push rfl rfl zkk5 ?_
        refine zA_go rfl rfl ?_
        cases H
        exact zA_ret rfl (zret_Z (by decide))
      · refine zA_brF (c := x26 < 0) rfl rfl rfl c28 ?_
        refine zA_ld rfl rfl rfl ?_
        refine zA_ldn rfl rfl rfl ?_
        rcases zite_e H with ⟨c29, H⟩ | ⟨c29, H⟩
        · refine zA_brT (c := x26 ≤ x3) rfl rfl rfl c29 ?_
          refine zA_tr (L := [none, none, none, none, none, none, none, none]) rfl rfl ?_
          refine zA_push rfl rfl zkk7 ?_
          cases H
          exact zA_ret rfl (zret_Z (by decide))
        · refine zA_brF (c := x26 ≤ x3) rfl rfl rfl c29 ?_
          refine zA_aldn rfl rfl rfl ?_
          refine zA_ld rfl rfl rfl ?_
          rcases zb_e H with ⟨x31, h30, C, H⟩ | ⟨E, h30, C, H⟩
          · refine zA_callV (as := [zrv x0, zI x26]) (st' := []) rfl rfl rfl (zrcv_Q e23 c24) rfl (zmE44 _ _) rfl (zmS44 C) ?_
            rcases zite_e H with ⟨c32, H⟩ | ⟨c32, H⟩
            · refine zA_brF' (c := x31 = 0) rfl rfl rfl c32 ?_
              refine zA_tr (L := [none, none, none, none, none, none, none, none]) rfl rfl ?_
              refine zA_push rfl rfl zkk5 ?_
              refine zA_go rfl rfl ?_
              cases H
              exact zA_ret rfl (zret_Z (by decide))
            · refine zA_brT' (c := x31 = 0) rfl rfl rfl c32 ?_
              refine zA_tr (L := [none, none, none, none, none, none, none, none]) rfl rfl ?_
              refine zA_push rfl rfl zkk7 ?_
              cases H
              exact zA_ret rfl (zret_Z (by decide))
          · cases H
            exact zA_callX (as := [zrv x0, zI x26]) (st' := []) rfl rfl (zrcv_Q e23 c24) rfl (zmE44 _ _) rfl rfl rfl (zmS44 C)
  · cases H
    exact zA_callX (as := [zrv x0, zI x1, zI x2]) (st' := []) rfl rfl (zrcv_Q e23 c24) rfl (zmE93 _ _ _) rfl rfl rfl (zmS93 C)
def zm243_52 (x0 : zq) (x1 : Int32) (x2 : Int32) (x3 : Int32) (h : zH) : zRs Int32 :=
  zob 11 x0 fun p21 i22 =>
  zb (zm103 x0 x1 x2 h) fun x26 h25 =>
  zb (zm104 x0 x1 x2 h25) fun x28 h27 =>
  if x26 = x28 then
    zb (zm102 x0 x1 x2 h27) fun x31 h30 =>
    if (Op.cmpValue (FP.dcmp x31 (0 : UInt64)) .l) ≤ 0 then
      zm243_71 x0 x1 x2 x3 (0 : Int32) h30
    else
      zm243_71 x0 x1 x2 x3 (1 : Int32) h30
  else
    zm243_71 x0 x1 x2 x3 (0 : Int32) h27
theorem zmS243_52 : ∀ (x0 : zq) (x1 : Int32) (x2 : Int32) (x3 : Int32) (h : zH) (r : Int32 ⊕ Nat) (h' : zH), zm243_52 x0 x1 x2 x3 h = some (r, h') → zAt 243 52 [some (zrv x0), some (zI x1), some (zI x2), some (zI x3), none, none, none, none] [] h (zoI r) h' := by
  intro x0 x1 x2 x3 h r h' H
  unfold zm243_52 at H
  refine zA_aldn rfl rfl rfl ?_
  refine zA_ldn rfl rfl rfl ?_
  refine zA_ldn rfl rfl rfl ?_
  obtain ⟨p21, i22, e23, c24, H⟩ := zob_e H
  rcases zb_e H with ⟨x26, h25, C, H⟩ | ⟨E, h25, C, H⟩
  · refine zA_callV (as := [zrv x0, zI x1, zI x2]) (st' := []) rfl rfl rfl (zrcv_Q e23 c24) rfl (zmE103 _ _ _) rfl (zmS103 C) ?_
    refine zA_aldn rfl rfl rfl ?_
    refine zA_ldn rfl rfl rfl ?_
    refine zA_ldn rfl rfl rfl ?_
    rcases zb_e H with ⟨x28, h27, C, H⟩ | ⟨E, h27, C, H⟩
    · refine zA_callV (as := [zrv x0, zI x1, zI x2]) (st' := [zI x26]) rfl rfl rfl (zrcv_Q e23 c24) rfl (zmE104 _ _ _) rfl (zmS104 C) ?_
      rcases zite_e H with ⟨c29, H⟩ | ⟨c29, H⟩
      · refine zA_brF' (c := x26 = x28) rfl rfl rfl c29 ?_
        refine zA_aldn rfl rfl rfl ?_
        refine zA_ldn rfl rfl rfl ?_
        refine zA_ldn rfl rfl rfl ?_
        rcases zb_e H with ⟨x31, h30, C, H⟩ | ⟨E, h30, C, H⟩
        · refine zA_callV (as := [zrv x0, zI x1, zI x2]) (st' := []) rfl rfl rfl (zrcv_Q e23 c24) rfl (zmE102 _ _ _) rfl (zmS102 C) ?_
          refine zA_push rfl rfl zkk44 ?_
          refine zA_st (st' := [zI (Op.cmpValue (FP.dcmp x31 (0 : UInt64)) .l)]) rfl rfl rfl rfl ?_
          rcases zite_e H with ⟨c32, H⟩ | ⟨c32, H⟩
          · refine zA_brT (c := (Op.cmpValue (FP.dcmp x31 (0 : UInt64)) .l) ≤ 0) rfl rfl rfl c32 ?_
            refine zA_push rfl rfl zkk7 ?_
            exact zA_tr (L := [some (zrv x0), some (zI x1), some (zI x2), some (zI x3), none, none, none, none]) rfl rfl (zmS243_71 _ _ _ _ _ _ _ _ H)
          · refine zA_brF (c := (Op.cmpValue (FP.dcmp x31 (0 : UInt64)) .l) ≤ 0) rfl rfl rfl c32 ?_
            refine zA_push rfl rfl zkk5 ?_
            refine zA_go rfl rfl ?_
            exact zA_tr (L := [some (zrv x0), some (zI x1), some (zI x2), some (zI x3), none, none, none, none]) rfl rfl (zmS243_71 _ _ _ _ _ _ _ _ H)
        · cases H
          exact zA_callX (as := [zrv x0, zI x1, zI x2]) (st' := []) rfl rfl (zrcv_Q e23 c24) rfl (zmE102 _ _ _) rfl rfl rfl (zmS102 C)
      · refine zA_brT' (c := x26 = x28) rfl rfl rfl c29 ?_
        refine zA_push rfl rfl zkk7 ?_
        exact zA_tr (L := [some (zrv x0), some (zI x1), some (zI x2), some (zI x3), none, none, none, none]) rfl rfl (zmS243_71 _ _ _ _ _ _ _ _ H)
    · cases H
      exact zA_callX (as := [zrv x0, zI x1, zI x2]) (st' := [zI x26]) rfl rfl (zrcv_Q e23 c24) rfl (zmE104 _ _ _) rfl rfl rfl (zmS104 C)
  · cases H
    exact zA_callX (as := [zrv x0, zI x1, zI x2]) (st' := []) rfl rfl (zrcv_Q e23 c24) rfl (zmE103 _ _ _) rfl rfl rfl (zmS103 C)
def zm243_44 (x0 : zq) (x1 : Int32) (x2 : Int32) (x3 : Int32) (x4 : Int32) (s0 : Int32) (h : zH) : zRs Int32 :=
  if s0 = 0 then
    zm243_71 x0 x1 x2 x3 (0 : Int32) h
  else
    if x3 < 0 then
      zm243_52 x0 x1 x2 x3 h
    else
      if x3 = x4 then
        zm243_71 x0 x1 x2 x3 (0 : Int32) h
      else
        zm243_52 x0 x1 x2 x3 h
theorem zmS243_44 : ∀ (x0 : zq) (x1 : Int32) (x2 : Int32) (x3 : Int32) (x4 : Int32) (s0 : Int32) (h : zH) (r : Int32 ⊕ Nat) (h' : zH), zm243_44 x0 x1 x2 x3 x4 s0 h = some (r, h') → zAt 243 44 [some (zrv x0), some (zI x1), some (zI x2), some (zI x3), some (zI x4), none, none, none] [zI s0] h (zoI r) h' := by
  intro x0 x1 x2 x3 x4 s0 h r h' H
  unfold zm243_44 at H
  refine zA_ist2 rfl rfl rfl (zset1 (L' := [some (zrv x0), some (zI x1), some (zI x2), some (zI x3), some (zI x4), none, some (zI s0), none]) rfl rfl (zpcN rfl)) ?_
  refine zA_ld rfl rfl rfl ?_
  rcases zite_e H with ⟨c21, H⟩ | ⟨c21, H⟩
  · refine zA_brT (c := s0 = 0) rfl rfl rfl c21 ?_
    refine zA_tr (L := [some (zrv x0), some (zI x1), some (zI x2), some (zI x3), none, none, none, none]) rfl rfl ?_
    refine zA_push rfl rfl zkk7 ?_
    exact zA_tr (L := [some (zrv x0), some (zI x1), some (zI x2), some (zI x3), none, none, none, none]) rfl rfl (zmS243_71 _ _ _ _ _ _ _ _ H)
  · refine zA_brF (c := s0 = 0) rfl rfl rfl c21 ?_
    refine zA_ldn rfl rfl rfl ?_
    rcases zite_e H with ⟨c22, H⟩ | ⟨c22, H⟩
    · refine zA_brT (c := x3 < 0) rfl rfl rfl c22 ?_
      exact zA_tr (L := [some (zrv x0), some (zI x1), some (zI x2), some (zI x3), none, none, none, none]) rfl rfl (zmS243_52 _ _ _ _ _ _ _ H)
    · refine zA_brF (c := x3 < 0) rfl rfl rfl c22 ?_
      refine zA_ldn rfl rfl rfl ?_
      refine zA_ld rfl rfl rfl ?_
      rcases zite_e H with ⟨c23, H⟩ | ⟨c23, H⟩
      · refine zA_brT (c := x3 = x4) rfl rfl rfl c23 ?_
        refine zA_tr (L := [some (zrv x0), some (zI x1), some (zI x2), some (zI x3), none, none, none, none]) rfl rfl ?_
        refine zA_push rfl rfl zkk7 ?_
        exact zA_tr (L := [some (zrv x0), some (zI x1), some (zI x2), some (zI x3), none, none, none, none]) rfl rfl (zmS243_71 _ _ _ _ _ _ _ _ H)
      · refine zA_brF (c := x3 = x4) rfl rfl rfl c23 ?_
        exact zA_tr (L := [some (zrv x0), some (zI x1), some (zI x2), some (zI x3), none, none, none, none]) rfl rfl (zmS243_52 _ _ _ _ _ _ _ H)
def zm243_37 (x0 : zq) (x1 : Int32) (x2 : Int32) (x3 : Int32) (x4 : Int32) (x5 : Int32) (s0 : Int32) (s1 : Int32) (h : zH) : zRs Int32 :=
  if s0 = s1 then
    if (100 : Int32) < x5 then
      zm243_44 x0 x1 x2 x3 x4 (0 : Int32) h
    else
      zm243_44 x0 x1 x2 x3 x4 (1 : Int32) h
  else
    zm243_44 x0 x1 x2 x3 x4 (0 : Int32) h
theorem zmS243_37 : ∀ (x0 : zq) (x1 : Int32) (x2 : Int32) (x3 : Int32) (x4 : Int32) (x5 : Int32) (s0 : Int32) (s1 : Int32) (h : zH) (r : Int32 ⊕ Nat) (h' : zH), zm243_37 x0 x1 x2 x3 x4 x5 s0 s1 h = some (r, h') → zAt 243 37 [some (zrv x0), some (zI x1), some (zI x2), some (zI x3), some (zI x4), some (zI x5), none, none] [zI s1, zI s0] h (zoI r) h' := by
  intro x0 x1 x2 x3 x4 x5 s0 s1 h r h' H
  unfold zm243_37 at H
  rcases zite_e H with ⟨c21, H⟩ | ⟨c21, H⟩
  · refine zA_brF' (c := s0 = s1) rfl rfl rfl c21 ?_
    refine zA_ld rfl rfl rfl ?_
    refine zA_push rfl rfl zkk18 ?_
    rcases zite_e H with ⟨c22, H⟩ | ⟨c22, H⟩
    · refine zA_brT (c := (100 : Int32) < x5) rfl rfl rfl c22 ?_
      refine zA_tr (L := [some (zrv x0), some (zI x1), some (zI x2), some (zI x3), some (zI x4), none, none, none]) rfl rfl ?_
      refine zA_push rfl rfl zkk7 ?_
      exact zA_tr (L := [some (zrv x0), some (zI x1), some (zI x2), some (zI x3), some (zI x4), none, none, none]) rfl rfl (zmS243_44 _ _ _ _ _ _ _ _ _ H)
    · refine zA_brF (c := (100 : Int32) < x5) rfl rfl rfl c22 ?_
      refine zA_push rfl rfl zkk5 ?_
      refine zA_go rfl rfl ?_
      exact zA_tr (L := [some (zrv x0), some (zI x1), some (zI x2), some (zI x3), some (zI x4), none, none, none]) rfl rfl (zmS243_44 _ _ _ _ _ _ _ _ _ H)
  · refine zA_brT' (c := s0 = s1) rfl rfl rfl c21 ?_
    refine zA_tr (L := [some (zrv x0), some (zI x1), some (zI x2), some (zI x3), some (zI x4), none, none, none]) rfl rfl ?_
    refine zA_push rfl rfl zkk7 ?_
    exact zA_tr (L := [some (zrv x0), some (zI x1), some (zI x2), some (zI x3), some (zI x4), none, none, none]) rfl rfl (zmS243_44 _ _ _ _ _ _ _ _ _ H)
def zm243_32 (x0 : zq) (x1 : Int32) (x2 : Int32) (x3 : Int32) (x4 : Int32) (x5 : Int32) (s0 : Int32) (h : zH) : zRs Int32 :=
  if x4 < 0 then
    zm243_37 x0 x1 x2 x3 x4 x5 s0 (0 : Int32) h
  else
    zm243_37 x0 x1 x2 x3 x4 x5 s0 (1 : Int32) h
theorem zmS243_32 : ∀ (x0 : zq) (x1 : Int32) (x2 : Int32) (x3 : Int32) (x4 : Int32) (x5 : Int32) (s0 : Int32) (h : zH) (r : Int32 ⊕ Nat) (h' : zH), zm243_32 x0 x1 x2 x3 x4 x5 s0 h = some (r, h') → zAt 243 32 [some (zrv x0), some (zI x1), some (zI x2), some (zI x3), some (zI x4), some (zI x5), none, none] [zI s0] h (zoI r) h' := by
  intro x0 x1 x2 x3 x4 x5 s0 h r h' H
  unfold zm243_32 at H
  refine zA_ld rfl rfl rfl ?_
  rcases zite_e H with ⟨c21, H⟩ | ⟨c21, H⟩
  · refine zA_brT (c := x4 < 0) rfl rfl rfl c21 ?_
    refine zA_push rfl rfl zkk7 ?_
    exact zA_tr (L := [some (zrv x0), some (zI x1), some (zI x2), some (zI x3), some (zI x4), some (zI x5), none, none]) rfl rfl (zmS243_37 _ _ _ _ _ _ _ _ _ _ _ H)
  · refine zA_brF (c := x4 < 0) rfl rfl rfl c21 ?_
    refine zA_push rfl rfl zkk5 ?_
    refine zA_go rfl rfl ?_
    exact zA_tr (L := [some (zrv x0), some (zI x1), some (zI x2), some (zI x3), some (zI x4), some (zI x5), none, none]) rfl rfl (zmS243_37 _ _ _ _ _ _ _ _ _ _ _ H)
def zm243_27 (x0 : zq) (x1 : Int32) (x2 : Int32) (x3 : Int32) (x4 : Int32) (x5 : Int32) (h : zH) : zRs Int32 :=
  if x5 ≤ 0 then
    zm243_32 x0 x1 x2 x3 x4 x5 (0 : Int32) h
  else
    zm243_32 x0 x1 x2 x3 x4 x5 (1 : Int32) h
theorem zmS243_27 : ∀ (x0 : zq) (x1 : Int32) (x2 : Int32) (x3 : Int32) (x4 : Int32) (x5 : Int32) (h : zH) (r : Int32 ⊕ Nat) (h' : zH), zm243_27 x0 x1 x2 x3 x4 x5 h = some (r, h') → zAt 243 27 [some (zrv x0), some (zI x1), some (zI x2), some (zI x3), some (zI x4), some (zI x5), none, none] [] h (zoI r) h' := by
  intro x0 x1 x2 x3 x4 x5 h r h' H
  unfold zm243_27 at H
  refine zA_ld rfl rfl rfl ?_
  rcases zite_e H with ⟨c21, H⟩ | ⟨c21, H⟩
  · refine zA_brT (c := x5 ≤ 0) rfl rfl rfl c21 ?_
    refine zA_push rfl rfl zkk7 ?_
    exact zA_tr (L := [some (zrv x0), some (zI x1), some (zI x2), some (zI x3), some (zI x4), some (zI x5), none, none]) rfl rfl (zmS243_32 _ _ _ _ _ _ _ _ _ _ H)
  · refine zA_brF (c := x5 ≤ 0) rfl rfl rfl c21 ?_
    refine zA_push rfl rfl zkk5 ?_
    refine zA_go rfl rfl ?_
    exact zA_tr (L := [some (zrv x0), some (zI x1), some (zI x2), some (zI x3), some (zI x4), some (zI x5), none, none]) rfl rfl (zmS243_32 _ _ _ _ _ _ _ _ _ _ H)
def zm243_21 (x0 : zq) (x1 : Int32) (x2 : Int32) (x3 : Int32) (x4 : Int32) (x5 : Int32) (h : zH) : zRs Int32 :=
  if x4 < 0 then
    zm243_27 x0 x1 x2 x3 x4 x5 h
  else
    zob 11 x0 fun p22 i23 =>
    zb (zm43 x0 x4 h) fun x27 h26 =>
    if x27 = 0 then
      zm243_44 x0 x1 x2 x3 x4 (0 : Int32) h26
    else
      zm243_27 x0 x1 x2 x3 x4 x5 h26
theorem zmS243_21 : ∀ (x0 : zq) (x1 : Int32) (x2 : Int32) (x3 : Int32) (x4 : Int32) (x5 : Int32) (h : zH) (r : Int32 ⊕ Nat) (h' : zH), zm243_21 x0 x1 x2 x3 x4 x5 h = some (r, h') → zAt 243 21 [some (zrv x0), some (zI x1), some (zI x2), some (zI x3), some (zI x4), some (zI x5), none, none] [] h (zoI r) h' := by
  intro x0 x1 x2 x3 x4 x5 h r h' H
  unfold zm243_21 at H
  refine zA_ld rfl rfl rfl ?_
  rcases zite_e H with ⟨c21, H⟩ | ⟨c21, H⟩
  · refine zA_brT (c := x4 < 0) rfl rfl rfl c21 ?_
    exact zA_tr (L := [some (zrv x0), some (zI x1), some (zI x2), some (zI x3), some (zI x4), some (zI x5), none, none]) rfl rfl (zmS243_27 _ _ _ _ _ _ _ _ _ H)
  · refine zA_brF (c := x4 < 0) rfl rfl rfl c21 ?_
    refine zA_aldn rfl rfl rfl ?_
    refine zA_ld rfl rfl rfl ?_
    obtain ⟨p22, i23, e24, c25, H⟩ := zob_e H
    rcases zb_e H with ⟨x27, h26, C, H⟩ | ⟨E, h26, C, H⟩
    · refine zA_callV (as := [zrv x0, zI x4]) (st' := []) rfl rfl rfl (zrcv_Q e24 c25) rfl (zmE43 _ _) rfl (zmS43 C) ?_
      rcases zite_e H with ⟨c28, H⟩ | ⟨c28, H⟩
      · refine zA_brT (c := x27 = 0) rfl rfl rfl c28 ?_
        refine zA_tr (L := [some (zrv x0), some (zI x1), some (zI x2), some (zI x3), some (zI x4), none, none, none]) rfl rfl ?_
        refine zA_push rfl rfl zkk7 ?_
        exact zA_tr (L := [some (zrv x0), some (zI x1), some (zI x2), some (zI x3), some (zI x4), none, none, none]) rfl rfl (zmS243_44 _ _ _ _ _ _ _ _ _ H)
      · refine zA_brF (c := x27 = 0) rfl rfl rfl c28 ?_
        exact zA_tr (L := [some (zrv x0), some (zI x1), some (zI x2), some (zI x3), some (zI x4), some (zI x5), none, none]) rfl rfl (zmS243_27 _ _ _ _ _ _ _ _ _ H)
    · cases H
      exact zA_callX (as := [zrv x0, zI x4]) (st' := []) rfl rfl (zrcv_Q e24 c25) rfl (zmE43 _ _) rfl rfl rfl (zmS43 C)
-- 243: ReleaseHouseLaw.isRing(LReleaseHouse;II)Z
def zm243 (x0 : zq) (x1 : Int32) (x2 : Int32) (h : zH) : zRs Int32 :=
  zob 11 x0 fun p21 i22 =>
  zb (zm85 x0 x1 x2 h) fun x26 h25 =>
  zb (zm86 x0 x1 x2 h25) fun x28 h27 =>
  zb (zm87 x0 x1 x2 h27) fun x30 h29 =>
  if x26 < 0 then
    zm243_21 x0 x1 x2 x26 x28 x30 h29
  else
    zb (zm43 x0 x26 h29) fun x33 h32 =>
    if x33 = 0 then
      zm243_44 x0 x1 x2 x26 x28 (0 : Int32) h32
    else
      zm243_21 x0 x1 x2 x26 x28 x30 h32
theorem zmS243 {x0 : zq} {x1 : Int32} {x2 : Int32} {h : zH} {r : Int32 ⊕ Nat} {h' : zH} (H : zm243 x0 x1 x2 h = some (r, h')) : zAt 243 0 [some (zrv x0), some (zI x1), some (zI x2), none, none, none, none, none] [] h (zoI r) h' := by
  unfold zm243 at H
  refine zA_aldn rfl rfl rfl ?_
  refine zA_ldn rfl rfl rfl ?_
  refine zA_ldn rfl rfl rfl ?_
  obtain ⟨p21, i22, e23, c24, H⟩ := zob_e H
  rcases zb_e H with ⟨x26, h25, C, H⟩ | ⟨E, h25, C, H⟩
  · refine zA_callV (as := [zrv x0, zI x1, zI x2]) (st' := []) rfl rfl rfl (zrcv_Q e23 c24) rfl (zmE85 _ _ _) rfl (zmS85 C) ?_
    refine zA_istn2 rfl rfl rfl (zset1 (L' := [some (zrv x0), some (zI x1), some (zI x2), some (zI x26), none, none, none, none]) rfl rfl (zpcV rfl rfl)) ?_
    refine zA_aldn rfl rfl rfl ?_
    refine zA_ldn rfl rfl rfl ?_
    refine zA_ldn rfl rfl rfl ?_
    rcases zb_e H with ⟨x28, h27, C, H⟩ | ⟨E, h27, C, H⟩
    · refine zA_callV (as := [zrv x0, zI x1, zI x2]) (st' := []) rfl rfl rfl (zrcv_Q e23 c24) rfl (zmE86 _ _ _) rfl (zmS86 C) ?_
      refine zA_ist2 rfl rfl rfl (zset1 (L' := [some (zrv x0), some (zI x1), some (zI x2), some (zI x26), some (zI x28), none, none, none]) rfl rfl (zpcV rfl rfl)) ?_
      refine zA_aldn rfl rfl rfl ?_
      refine zA_ldn rfl rfl rfl ?_
      refine zA_ldn rfl rfl rfl ?_
      rcases zb_e H with ⟨x30, h29, C, H⟩ | ⟨E, h29, C, H⟩
      · refine zA_callV (as := [zrv x0, zI x1, zI x2]) (st' := []) rfl rfl rfl (zrcv_Q e23 c24) rfl (zmE87 _ _ _) rfl (zmS87 C) ?_
        refine zA_ist2 rfl rfl rfl (zset1 (L' := [some (zrv x0), some (zI x1), some (zI x2), some (zI x26), some (zI x28), some (zI x30), none, none]) rfl rfl (zpcV rfl rfl)) ?_
        refine zA_ldn rfl rfl rfl ?_
        rcases zite_e H with ⟨c31, H⟩ | ⟨c31, H⟩
        · refine zA_brT (c := x26 < 0) rfl rfl rfl c31 ?_
          exact zA_tr (L := [some (zrv x0), some (zI x1), some (zI x2), some (zI x26), some (zI x28), some (zI x30), none, none]) rfl rfl (zmS243_21 _ _ _ _ _ _ _ _ _ H)
        · refine zA_brF (c := x26 < 0) rfl rfl rfl c31 ?_
          refine zA_aldn rfl rfl rfl ?_
          refine zA_ldn rfl rfl rfl ?_
          rcases zb_e H with ⟨x33, h32, C, H⟩ | ⟨E, h32, C, H⟩
          · refine zA_callV (as := [zrv x0, zI x26]) (st' := []) rfl rfl rfl (zrcv_Q e23 c24) rfl (zmE43 _ _) rfl (zmS43 C) ?_
            rcases zite_e H with ⟨c34, H⟩ | ⟨c34, H⟩
            · refine zA_brT (c := x33 = 0) rfl rfl rfl c34 ?_
              refine zA_tr (L := [some (zrv x0), some (zI x1), some (zI x2), some (zI x26), some (zI x28), none, none, none]) rfl rfl ?_
              refine zA_push rfl rfl zkk7 ?_
              exact zA_tr (L := [some (zrv x0), some (zI x1), some (zI x2), some (zI x26), some (zI x28), none, none, none]) rfl rfl (zmS243_44 _ _ _ _ _ _ _ _ _ H)
            · refine zA_brF (c := x33 = 0) rfl rfl rfl c34 ?_
              exact zA_tr (L := [some (zrv x0), some (zI x1), some (zI x2), some (zI x26), some (zI x28), some (zI x30), none, none]) rfl rfl (zmS243_21 _ _ _ _ _ _ _ _ _ H)
          · cases H
            exact zA_callX (as := [zrv x0, zI x26]) (st' := []) rfl rfl (zrcv_Q e23 c24) rfl (zmE43 _ _) rfl rfl rfl (zmS43 C)
      · cases H
        exact zA_callX (as := [zrv x0, zI x1, zI x2]) (st' := []) rfl rfl (zrcv_Q e23 c24) rfl (zmE87 _ _ _) rfl rfl rfl (zmS87 C)
    · cases H
      exact zA_callX (as := [zrv x0, zI x1, zI x2]) (st' := []) rfl rfl (zrcv_Q e23 c24) rfl (zmE86 _ _ _) rfl rfl rfl (zmS86 C)
  · cases H
    exact zA_callX (as := [zrv x0, zI x1, zI x2]) (st' := []) rfl rfl (zrcv_Q e23 c24) rfl (zmE85 _ _ _) rfl rfl rfl (zmS85 C)
theorem zmE243 (x0 : zq) (x1 : Int32) (x2 : Int32) : zpad (zPr.2.1 243).1 (zil [zrv x0, zI x1, zI x2]) = [some (zrv x0), some (zI x1), some (zI x2), none, none, none, none, none] := by
  simp only [zil_A, zil_I, zil_F, zil_D, zil_N]
  rfl
def zm291_594 (k20 : zq → zq → Int32 → Int32 → Int32 → Int32 → Int32 → Int32 → Int32 → Int32 → zH → zRs Int32) (x0 : zq) (x1 : zq) (x2 : Int32) (x3 : Int32) (x4 : Int32) (x5 : Int32) (x6 : Int32) (x7 : Int32) (x8 : Int32) (x9 : Int32) (x11 : Int32) (x15 : Int32) (h : zH) : zRs Int32 :=
  if x15 = 0 then
    some (.inl (0 : Int32), h)
  else
    zob 11 x1 fun p22 i23 =>
    zb (zm48 x1 h) fun x27 h26 =>
    if x27 = 0 then
      zb (zm84 x1 h26) fun x30 h29 =>
      if x30 < x7 then
        some (.inl (0 : Int32), h29)
      else
        zb (zm242 (x11 >>> ((5 : Int32) &&& 31)) (2 : Int32) h29) fun x33 h32 =>
        zb (zm242 (x11 >>> ((7 : Int32) &&& 31)) (3 : Int32) h32) fun x35 h34 =>
        zb (zm243 x1 x33 x35 h34) fun x37 h36 =>
        if x37 = 0 then
          some (.inl (0 : Int32), h36)
        else
          zb (zm84 x1 h36) fun x40 h39 =>
          zlet (x9 + (1 : Int32)) fun x41 =>
          k20 x0 x1 x2 x3 x4 x5 x6 x40 x8 x41 h39
    else
      some (.inl (0 : Int32), h26)
theorem zmS291_594 {k20 : zq → zq → Int32 → Int32 → Int32 → Int32 → Int32 → Int32 → Int32 → Int32 → zH → zRs Int32} (hk20 : ∀ (x0 : zq) (x1 : zq) (x2 : Int32) (x3 : Int32) (x4 : Int32) (x5 : Int32) (x6 : Int32) (x7 : Int32) (x8 : Int32) (x9 : Int32) (h : zH) (r : Int32 ⊕ Nat) (h' : zH), k20 x0 x1 x2 x3 x4 x5 x6 x7 x8 x9 h = some (r, h') → zAt 291 20 [some (zrv x0), some (zrv x1), some (zI x2), some (zI x3), some (zI x4), some (zI x5), some (zI x6), some (zI x7), some (zI x8), some (zI x9), none, none, none, none, none, none, none, none, none] [] h (zoI r) h') : ∀ (x0 : zq) (x1 : zq) (x2 : Int32) (x3 : Int32) (x4 : Int32) (x5 : Int32) (x6 : Int32) (x7 : Int32) (x8 : Int32) (x9 : Int32) (x11 : Int32) (x15 : Int32) (h : zH) (r : Int32 ⊕ Nat) (h' : zH), zm291_594 k20 x0 x1 x2 x3 x4 x5 x6 x7 x8 x9 x11 x15 h = some (r, h') → zAt 291 594 [some (zrv x0), some (zrv x1), some (zI x2), some (zI x3), some (zI x4), some (zI x5), some (zI x6), some (zI x7), some (zI x8), some (zI x9), none, some (zI x11), none, none, none, some (zI x15), none, none, none] [] h (zoI r) h' := by
  intro x0 x1 x2 x3 x4 x5 x6 x7 x8 x9 x11 x15 h r h' H
  unfold zm291_594 at H
  refine zA_ld rfl rfl rfl ?_
  rcases zite_e H with ⟨c21, H⟩ | ⟨c21, H⟩
  · refine zA_brT (c := x15 = 0) rfl rfl rfl c21 ?_
    refine zA_tr (L := [none, none, none, none, none, none, none, none, none, none, none, none, none, none, none, none, none, none, none]) rfl rfl ?_
    refine zA_push rfl rfl zkk7 ?_
    cases H
    exact zA_ret rfl (zret_Z (by decide))
  · refine zA_brF (c := x15 = 0) rfl rfl rfl c21 ?_
    refine zA_aldn rfl rfl rfl ?_
    obtain ⟨p22, i23, e24, c25, H⟩ := zob_e H
    rcases zb_e H with ⟨x27, h26, C, H⟩ | ⟨E, h26, C, H⟩
    · refine zA_callV (as := [zrv x1]) (st' := []) rfl rfl rfl (zrcv_Q e24 c25) rfl (zmE48 _) rfl (zmS48 C) ?_
      rcases zite_e H with ⟨c28, H⟩ | ⟨c28, H⟩
      · refine zA_brF' (c := x27 = 0) rfl rfl rfl c28 ?_
        refine zA_aldn rfl rfl rfl ?_
        rcases zb_e H with ⟨x30, h29, C, H⟩ | ⟨E, h29, C, H⟩
        · refine zA_callV (as := [zrv x1]) (st' := []) rfl rfl rfl (zrcv_Q e24 c25) rfl (zmE84 _) rfl (zmS84 C) ?_
          refine zA_ld rfl rfl rfl ?_
          rcases zite_e H with ⟨c31, H⟩ | ⟨c31, H⟩
          · refine zA_brT (c := x30 < x7) rfl rfl rfl c31 ?_
            refine zA_tr (L := [none, none, none, none, none, none, none, none, none, none, none, none, none, none, none, none, none, none, none]) rfl rfl ?_
            refine zA_push rfl rfl zkk7 ?_
            cases H
            exact zA_ret rfl (zret_Z (by decide))
          · refine zA_brF (c := x30 < x7) rfl rfl rfl c31 ?_
            refine zA_aldn rfl rfl rfl ?_
            refine zA_ld rfl rfl rfl ?_
            refine zA_push rfl rfl zkk16 ?_
            refine zA_st (st' := [zI (x11 >>> ((5 : Int32) &&& 31)), zrv x1]) rfl rfl rfl rfl ?_
            refine zA_push rfl rfl zkk15 ?_
            rcases zb_e H with ⟨x33, h32, C, H⟩ | ⟨E, h32, C, H⟩
            · refine zA_callV (as := [zI (x11 >>> ((5 : Int32) &&& 31)), zI (2 : Int32)]) (st' := [zrv x1]) rfl rfl rfl rfl rfl (zmE242 _ _) rfl (zmS242 C) ?_
              refine zA_ld rfl rfl rfl ?_
              refine zA_push rfl rfl zkk20 ?_
              refine zA_st (st' := [zI (x11 >>> ((7 : Int32) &&& 31)), zI x33, zrv x1]) rfl rfl rfl rfl ?_
              refine zA_push rfl rfl zkk3 ?_
              rcases zb_e H with ⟨x35, h34, C, H⟩ | ⟨E, h34, C, H⟩
              · refine zA_callV (as := [zI (x11 >>> ((7 : Int32) &&& 31)), zI (3 : Int32)]) (st' := [zI x33, zrv x1]) rfl rfl rfl rfl rfl (zmE242 _ _) rfl (zmS242 C) ?_
                rcases zb_e H with ⟨x37, h36, C, H⟩ | ⟨E, h36, C, H⟩
                · refine zA_callV (as := [zrv x1, zI x33, zI x35]) (st' := []) rfl rfl rfl rfl rfl (zmE243 _ _ _) rfl (zmS243 C) ?_
                  rcases zite_e H with ⟨c38, H⟩ | ⟨c38, H⟩
                  · refine zA_brF' (c := x37 = 0) rfl rfl rfl c38 ?_
                    refine zA_tr (L := [none, none, none, none, none, none, none, none, none, none, none, none, none, none, none, none, none, none, none]) rfl rfl ?_
                    refine zA_push rfl rfl zkk7 ?_
                    cases H
                    exact zA_ret rfl (zret_Z (by decide))
                  · refine zA_brT' (c := x37 = 0) rfl rfl rfl c38 ?_
                    refine zA_tr (L := [some (zrv x0), some (zrv x1), some (zI x2), some (zI x3), some (zI x4), some (zI x5), some (zI x6), none, some (zI x8), some (zI x9), none, none, none, none, none, none, none, none, none]) rfl rfl ?_
                    refine zA_aldn rfl rfl rfl ?_
                    rcases zb_e H with ⟨x40, h39, C, H⟩ | ⟨E, h39, C, H⟩
                    · refine zA_callV (as := [zrv x1]) (st' := []) rfl rfl rfl (zrcv_Q e24 c25) rfl (zmE84 _) rfl (zmS84 C) ?_
                      refine zA_ist2 rfl rfl rfl (zset1 (L' := [some (zrv x0), some (zrv x1), some (zI x2), some (zI x3), some (zI x4), some (zI x5), some (zI x6), some (zI x40), some (zI x8), some (zI x9), none, none, none, none, none, none, none, none, none]) rfl rfl (zpcV rfl rfl)) ?_
                      obtain ⟨x41, e42, H⟩ := zlet_e H
                      refine zA_inc rfl rfl rfl (e42.trans (congrArg (_ + ·) zkk8)) (zset1 (L' := [some (zrv x0), some (zrv x1), some (zI x2), some (zI x3), some (zI x4), some (zI x5), some (zI x6), some (zI x40), some (zI x8), some (zI x41), none, none, none, none, none, none, none, none, none]) rfl rfl (zpcV rfl rfl)) ?_
                      refine zA_go rfl rfl ?_
                      exact zA_tr (L := [some (zrv x0), some (zrv x1), some (zI x2), some (zI x3), some (zI x4), some (zI x5), some (zI x6), some (zI x40), some (zI x8), some (zI x41), none, none, none, none, none, none, none, none, none]) rfl rfl (hk20 _ _ _ _ _ _ _ _ _ _ _ _ _ H)
                    · cases H
                      exact zA_callX (as := [zrv x1]) (st' := []) rfl rfl (zrcv_Q e24 c25) rfl (zmE84 _) rfl rfl rfl (zmS84 C)
                · cases H
                  exact zA_callX (as := [zrv x1, zI x33, zI x35]) (st' := []) rfl rfl rfl rfl (zmE243 _ _ _) rfl rfl rfl (zmS243 C)
              · cases H
                exact zA_callX (as := [zI (x11 >>> ((7 : Int32) &&& 31)), zI (3 : Int32)]) (st' := [zI x33, zrv x1]) rfl rfl rfl rfl (zmE242 _ _) rfl rfl rfl (zmS242 C)
            · cases H
              exact zA_callX (as := [zI (x11 >>> ((5 : Int32) &&& 31)), zI (2 : Int32)]) (st' := [zrv x1]) rfl rfl rfl rfl (zmE242 _ _) rfl rfl rfl (zmS242 C)
        · cases H
          exact zA_callX (as := [zrv x1]) (st' := []) rfl rfl (zrcv_Q e24 c25) rfl (zmE84 _) rfl rfl rfl (zmS84 C)
      · refine zA_brT' (c := x27 = 0) rfl rfl rfl c28 ?_
        refine zA_tr (L := [none, none, none, none, none, none, none, none, none, none, none, none, none, none, none, none, none, none, none]) rfl rfl ?_
        refine zA_push rfl rfl zkk7 ?_
        cases H
        exact zA_ret rfl (zret_Z (by decide))
    · cases H
      exact zA_callX (as := [zrv x1]) (st' := []) rfl rfl (zrcv_Q e24 c25) rfl (zmE48 _) rfl rfl rfl (zmS48 C)
def zm291_136 (k144 : zq → zq → Int32 → Int32 → Int32 → Int32 → Int32 → Int32 → Int32 → Int32 → Int32 → Int32 → Int32 → Int32 → zH → zRs Int32) : Nat → zq → zq → Int32 → Int32 → Int32 → Int32 → Int32 → Int32 → Int32 → Int32 → Int32 → Int32 → Int32 → Int32 → zH → zRs Int32
  | 0, _, _, _, _, _, _, _, _, _, _, _, _, _, _, _ => none
  | n + 1, x0, x1, x2, x3, x4, x5, x6, x7, x8, x9, x11, x13, x16, x17, h =>
    if ((x16 >>> (x17 &&& 31)) &&& (1 : Int32)) = 0 then
      zlet (x17 + (1 : Int32)) fun x22 =>
      zm291_136 k144 n x0 x1 x2 x3 x4 x5 x6 x7 x8 x9 x11 x13 x16 x22 h
    else
      k144 x0 x1 x2 x3 x4 x5 x6 x7 x8 x9 x11 x13 x16 x17 h
theorem zmS291_136 {k144 : zq → zq → Int32 → Int32 → Int32 → Int32 → Int32 → Int32 → Int32 → Int32 → Int32 → Int32 → Int32 → Int32 → zH → zRs Int32} (hk144 : ∀ (x0 : zq) (x1 : zq) (x2 : Int32) (x3 : Int32) (x4 : Int32) (x5 : Int32) (x6 : Int32) (x7 : Int32) (x8 : Int32) (x9 : Int32) (x11 : Int32) (x13 : Int32) (x16 : Int32) (x17 : Int32) (h : zH) (r : Int32 ⊕ Nat) (h' : zH), k144 x0 x1 x2 x3 x4 x5 x6 x7 x8 x9 x11 x13 x16 x17 h = some (r, h') → zAt 291 144 [some (zrv x0), some (zrv x1), some (zI x2), some (zI x3), some (zI x4), some (zI x5), some (zI x6), some (zI x7), some (zI x8), some (zI x9), none, some (zI x11), none, some (zI x13), none, none, some (zI x16), some (zI x17), none] [] h (zoI r) h') : ∀ (n : Nat) (x0 : zq) (x1 : zq) (x2 : Int32) (x3 : Int32) (x4 : Int32) (x5 : Int32) (x6 : Int32) (x7 : Int32) (x8 : Int32) (x9 : Int32) (x11 : Int32) (x13 : Int32) (x16 : Int32) (x17 : Int32) (h : zH) (r : Int32 ⊕ Nat) (h' : zH), zm291_136 k144 n x0 x1 x2 x3 x4 x5 x6 x7 x8 x9 x11 x13 x16 x17 h = some (r, h') → zAt 291 136 [some (zrv x0), some (zrv x1), some (zI x2), some (zI x3), some (zI x4), some (zI x5), some (zI x6), some (zI x7), some (zI x8), some (zI x9), none, some (zI x11), none, some (zI x13), none, none, some (zI x16), some (zI x17), none] [] h (zoI r) h' := by
  intro n
  induction n with
  | zero => intro x0 x1 x2 x3 x4 x5 x6 x7 x8 x9 x11 x13 x16 x17 h r h' H; cases H
  | succ n ih =>
    intro x0 x1 x2 x3 x4 x5 x6 x7 x8 x9 x11 x13 x16 x17 h r h' H
    unfold zm291_136 at H
    refine zA_ld rfl rfl rfl ?_
    refine zA_ld rfl rfl rfl ?_
    refine zA_st (st' := [zI (x16 >>> (x17 &&& 31))]) rfl rfl rfl rfl ?_
    refine zA_push rfl rfl zkk5 ?_
    refine zA_st (st' := [zI ((x16 >>> (x17 &&& 31)) &&& (1 : Int32))]) rfl rfl rfl rfl ?_
    rcases zite_e H with ⟨c21, H⟩ | ⟨c21, H⟩
    · refine zA_brF' (c := ((x16 >>> (x17 &&& 31)) &&& (1 : Int32)) = 0) rfl rfl rfl c21 ?_
      obtain ⟨x22, e23, H⟩ := zlet_e H
      refine zA_inc rfl rfl rfl (e23.trans (congrArg (_ + ·) zkk8)) (zset1 (L' := [some (zrv x0), some (zrv x1), some (zI x2), some (zI x3), some (zI x4), some (zI x5), some (zI x6), some (zI x7), some (zI x8), some (zI x9), none, some (zI x11), none, some (zI x13), none, none, some (zI x16), some (zI x22), none]) rfl rfl (zpcV rfl rfl)) ?_
      refine zA_go rfl rfl ?_
      exact zA_tr (L := [some (zrv x0), some (zrv x1), some (zI x2), some (zI x3), some (zI x4), some (zI x5), some (zI x6), some (zI x7), some (zI x8), some (zI x9), none, some (zI x11), none, some (zI x13), none, none, some (zI x16), some (zI x22), none]) rfl rfl (ih _ _ _ _ _ _ _ _ _ _ _ _ _ _ _ _ _ H)
    · refine zA_brT' (c := ((x16 >>> (x17 &&& 31)) &&& (1 : Int32)) = 0) rfl rfl rfl c21 ?_
      exact zA_tr (L := [some (zrv x0), some (zrv x1), some (zI x2), some (zI x3), some (zI x4), some (zI x5), some (zI x6), some (zI x7), some (zI x8), some (zI x9), none, some (zI x11), none, some (zI x13), none, none, some (zI x16), some (zI x17), none]) rfl rfl (hk144 _ _ _ _ _ _ _ _ _ _ _ _ _ _ _ _ _ H)
def zm291_208 (k20 : zq → zq → Int32 → Int32 → Int32 → Int32 → Int32 → Int32 → Int32 → Int32 → zH → zRs Int32) (x0 : zq) (x1 : zq) (x2 : Int32) (x3 : Int32) (x4 : Int32) (x5 : Int32) (x6 : Int32) (x7 : Int32) (x8 : Int32) (x9 : Int32) (x11 : Int32) (s0 : Int32) (h : zH) : zRs Int32 :=
  zlet (x2 + (1 : Int32)) fun x21 =>
  zm291_594 k20 x0 x1 x21 x3 x4 x5 x6 x7 x8 x9 x11 s0 h
theorem zmS291_208 {k20 : zq → zq → Int32 → Int32 → Int32 → Int32 → Int32 → Int32 → Int32 → Int32 → zH → zRs Int32} (hk20 : ∀ (x0 : zq) (x1 : zq) (x2 : Int32) (x3 : Int32) (x4 : Int32) (x5 : Int32) (x6 : Int32) (x7 : Int32) (x8 : Int32) (x9 : Int32) (h : zH) (r : Int32 ⊕ Nat) (h' : zH), k20 x0 x1 x2 x3 x4 x5 x6 x7 x8 x9 h = some (r, h') → zAt 291 20 [some (zrv x0), some (zrv x1), some (zI x2), some (zI x3), some (zI x4), some (zI x5), some (zI x6), some (zI x7), some (zI x8), some (zI x9), none, none, none, none, none, none, none, none, none] [] h (zoI r) h') : ∀ (x0 : zq) (x1 : zq) (x2 : Int32) (x3 : Int32) (x4 : Int32) (x5 : Int32) (x6 : Int32) (x7 : Int32) (x8 : Int32) (x9 : Int32) (x11 : Int32) (s0 : Int32) (h : zH) (r : Int32 ⊕ Nat) (h' : zH), zm291_208 k20 x0 x1 x2 x3 x4 x5 x6 x7 x8 x9 x11 s0 h = some (r, h') → zAt 291 208 [some (zrv x0), some (zrv x1), some (zI x2), some (zI x3), some (zI x4), some (zI x5), some (zI x6), some (zI x7), some (zI x8), some (zI x9), none, some (zI x11), none, none, none, none, none, none, none] [zI s0] h (zoI r) h' := by
  intro x0 x1 x2 x3 x4 x5 x6 x7 x8 x9 x11 s0 h r h' H
  unfold zm291_208 at H
  refine zA_ist2 rfl rfl rfl (zset1 (L' := [some (zrv x0), some (zrv x1), some (zI x2), some (zI x3), some (zI x4), some (zI x5), some (zI x6), some (zI x7), some (zI x8), some (zI x9), none, some (zI x11), none, none, none, some (zI s0), none, none, none]) rfl rfl (zpcN rfl)) ?_
  obtain ⟨x21, e22, H⟩ := zlet_e H
  refine zA_inc rfl rfl rfl (e22.trans (congrArg (_ + ·) zkk8)) (zset1 (L' := [some (zrv x0), some (zrv x1), some (zI x21), some (zI x3), some (zI x4), some (zI x5), some (zI x6), some (zI x7), some (zI x8), some (zI x9), none, some (zI x11), none, none, none, some (zI s0), none, none, none]) rfl rfl (zpcV rfl (zcat_rv _))) ?_
  refine zA_go rfl rfl ?_
  exact zA_tr (L := [some (zrv x0), some (zrv x1), some (zI x21), some (zI x3), some (zI x4), some (zI x5), some (zI x6), some (zI x7), some (zI x8), some (zI x9), none, some (zI x11), none, none, none, some (zI s0), none, none, none]) rfl rfl (zmS291_594 hk20 _ _ _ _ _ _ _ _ _ _ _ _ _ _ _ H)
def zm291_201 (k20 : zq → zq → Int32 → Int32 → Int32 → Int32 → Int32 → Int32 → Int32 → Int32 → zH → zRs Int32) (x0 : zq) (x1 : zq) (x2 : Int32) (x3 : Int32) (x4 : Int32) (x5 : Int32) (x6 : Int32) (x7 : Int32) (x8 : Int32) (x9 : Int32) (x11 : Int32) (s0 : zq) (s1 : Int32) (s2 : Int32) (s3 : Int32) (s4 : Int32) (s5 : Int32) (s6 : Int32) (s7 : Int32) (s8 : Int32) (h : zH) : zRs Int32 :=
  zob 11 s0 fun p21 i22 =>
  zb (zm40 s0 s1 s2 s3 s4 s5 s6 s7 s8 (1 : Int32) h) fun x26 h25 =>
  if x26 = x2 then
    zm291_208 k20 x0 x1 x2 x3 x4 x5 x6 x7 x8 x9 x11 (1 : Int32) h25
  else
    zm291_208 k20 x0 x1 x2 x3 x4 x5 x6 x7 x8 x9 x11 (0 : Int32) h25
theorem zmS291_201 {k20 : zq → zq → Int32 → Int32 → Int32 → Int32 → Int32 → Int32 → Int32 → Int32 → zH → zRs Int32} (hk20 : ∀ (x0 : zq) (x1 : zq) (x2 : Int32) (x3 : Int32) (x4 : Int32) (x5 : Int32) (x6 : Int32) (x7 : Int32) (x8 : Int32) (x9 : Int32) (h : zH) (r : Int32 ⊕ Nat) (h' : zH), k20 x0 x1 x2 x3 x4 x5 x6 x7 x8 x9 h = some (r, h') → zAt 291 20 [some (zrv x0), some (zrv x1), some (zI x2), some (zI x3), some (zI x4), some (zI x5), some (zI x6), some (zI x7), some (zI x8), some (zI x9), none, none, none, none, none, none, none, none, none] [] h (zoI r) h') : ∀ (x0 : zq) (x1 : zq) (x2 : Int32) (x3 : Int32) (x4 : Int32) (x5 : Int32) (x6 : Int32) (x7 : Int32) (x8 : Int32) (x9 : Int32) (x11 : Int32) (s0 : zq) (s1 : Int32) (s2 : Int32) (s3 : Int32) (s4 : Int32) (s5 : Int32) (s6 : Int32) (s7 : Int32) (s8 : Int32) (h : zH) (r : Int32 ⊕ Nat) (h' : zH), zm291_201 k20 x0 x1 x2 x3 x4 x5 x6 x7 x8 x9 x11 s0 s1 s2 s3 s4 s5 s6 s7 s8 h = some (r, h') → zAt 291 201 [some (zrv x0), some (zrv x1), some (zI x2), some (zI x3), some (zI x4), some (zI x5), some (zI x6), some (zI x7), some (zI x8), some (zI x9), none, some (zI x11), none, none, none, none, none, none, none] [zI s8, zI s7, zI s6, zI s5, zI s4, zI s3, zI s2, zI s1, zrv s0] h (zoI r) h' := by
  intro x0 x1 x2 x3 x4 x5 x6 x7 x8 x9 x11 s0 s1 s2 s3 s4 s5 s6 s7 s8 h r h' H
  unfold zm291_201 at H
  refine zA_push rfl rfl zkk5 ?_
  obtain ⟨p21, i22, e23, c24, H⟩ := zob_e H
  rcases zb_e H with ⟨x26, h25, C, H⟩ | ⟨E, h25, C, H⟩
  · refine zA_callV (as := [zrv s0, zI s1, zI s2, zI s3, zI s4, zI s5, zI s6, zI s7, zI s8, zI (1 : Int32)]) (st' := []) rfl rfl rfl (zrcv_Q e23 c24) rfl (zmE40 _ _ _ _ _ _ _ _ _ _) rfl (zmS40 C) ?_
    refine zA_ldn rfl rfl rfl ?_
    rcases zite_e H with ⟨c27, H⟩ | ⟨c27, H⟩
    · refine zA_brF' (c := x26 = x2) rfl rfl rfl c27 ?_
      refine zA_push rfl rfl zkk5 ?_
      refine zA_go rfl rfl ?_
      exact zA_tr (L := [some (zrv x0), some (zrv x1), some (zI x2), some (zI x3), some (zI x4), some (zI x5), some (zI x6), some (zI x7), some (zI x8), some (zI x9), none, some (zI x11), none, none, none, none, none, none, none]) rfl rfl (zmS291_208 hk20 _ _ _ _ _ _ _ _ _ _ _ _ _ _ _ H)
    · refine zA_brT' (c := x26 = x2) rfl rfl rfl c27 ?_
      refine zA_push rfl rfl zkk7 ?_
      exact zA_tr (L := [some (zrv x0), some (zrv x1), some (zI x2), some (zI x3), some (zI x4), some (zI x5), some (zI x6), some (zI x7), some (zI x8), some (zI x9), none, some (zI x11), none, none, none, none, none, none, none]) rfl rfl (zmS291_208 hk20 _ _ _ _ _ _ _ _ _ _ _ _ _ _ _ H)
  · cases H
    exact zA_callX (as := [zrv s0, zI s1, zI s2, zI s3, zI s4, zI s5, zI s6, zI s7, zI s8, zI (1 : Int32)]) (st' := []) rfl rfl (zrcv_Q e23 c24) rfl (zmE40 _ _ _ _ _ _ _ _ _ _) rfl rfl rfl (zmS40 C)
def zm291_192 (k20 : zq → zq → Int32 → Int32 → Int32 → Int32 → Int32 → Int32 → Int32 → Int32 → zH → zRs Int32) (x0 : zq) (x1 : zq) (x2 : Int32) (x3 : Int32) (x4 : Int32) (x5 : Int32) (x6 : Int32) (x7 : Int32) (x8 : Int32) (x9 : Int32) (x11 : Int32) (s0 : zq) (s1 : Int32) (s2 : Int32) (s3 : Int32) (s4 : Int32) (s5 : Int32) (s6 : Int32) (s7 : Int32) (h : zH) : zRs Int32 :=
  zb (zm242 (x11 >>> ((16 : Int32) &&& 31)) (4 : Int32) h) fun x22 h21 =>
  if x22 = 0 then
    zm291_201 k20 x0 x1 x2 x3 x4 x5 x6 x7 x8 x9 x11 s0 s1 s2 s3 s4 s5 s6 s7 (1 : Int32) h21
  else
    zm291_201 k20 x0 x1 x2 x3 x4 x5 x6 x7 x8 x9 x11 s0 s1 s2 s3 s4 s5 s6 s7 (0 : Int32) h21
theorem zmS291_192 {k20 : zq → zq → Int32 → Int32 → Int32 → Int32 → Int32 → Int32 → Int32 → Int32 → zH → zRs Int32} (hk20 : ∀ (x0 : zq) (x1 : zq) (x2 : Int32) (x3 : Int32) (x4 : Int32) (x5 : Int32) (x6 : Int32) (x7 : Int32) (x8 : Int32) (x9 : Int32) (h : zH) (r : Int32 ⊕ Nat) (h' : zH), k20 x0 x1 x2 x3 x4 x5 x6 x7 x8 x9 h = some (r, h') → zAt 291 20 [some (zrv x0), some (zrv x1), some (zI x2), some (zI x3), some (zI x4), some (zI x5), some (zI x6), some (zI x7), some (zI x8), some (zI x9), none, none, none, none, none, none, none, none, none] [] h (zoI r) h') : ∀ (x0 : zq) (x1 : zq) (x2 : Int32) (x3 : Int32) (x4 : Int32) (x5 : Int32) (x6 : Int32) (x7 : Int32) (x8 : Int32) (x9 : Int32) (x11 : Int32) (s0 : zq) (s1 : Int32) (s2 : Int32) (s3 : Int32) (s4 : Int32) (s5 : Int32) (s6 : Int32) (s7 : Int32) (h : zH) (r : Int32 ⊕ Nat) (h' : zH), zm291_192 k20 x0 x1 x2 x3 x4 x5 x6 x7 x8 x9 x11 s0 s1 s2 s3 s4 s5 s6 s7 h = some (r, h') → zAt 291 192 [some (zrv x0), some (zrv x1), some (zI x2), some (zI x3), some (zI x4), some (zI x5), some (zI x6), some (zI x7), some (zI x8), some (zI x9), none, some (zI x11), none, none, none, none, none, none, none] [zI s7, zI s6, zI s5, zI s4, zI s3, zI s2, zI s1, zrv s0] h (zoI r) h' := by
  intro x0 x1 x2 x3 x4 x5 x6 x7 x8 x9 x11 s0 s1 s2 s3 s4 s5 s6 s7 h r h' H
  unfold zm291_192 at H
  refine zA_ld rfl rfl rfl ?_
  refine zA_push rfl rfl zkk29 ?_
  refine zA_st (st' := [zI (x11 >>> ((16 : Int32) &&& 31)), zI s7, zI s6, zI s5, zI s4, zI s3, zI s2, zI s1, zrv s0]) rfl rfl rfl rfl ?_
  refine zA_push rfl rfl zkk9 ?_
  rcases zb_e H with ⟨x22, h21, C, H⟩ | ⟨E, h21, C, H⟩
  · refine zA_callV (as := [zI (x11 >>> ((16 : Int32) &&& 31)), zI (4 : Int32)]) (st' := [zI s7, zI s6, zI s5, zI s4, zI s3, zI s2, zI s1, zrv s0]) rfl rfl rfl rfl (zsk4_w (by simp only [zsw, zcat_rv, show ∀ x : Int32, zcat (zI x) = 1 from fun _ => rfl]; decide)) (zmE242 _ _) rfl (zmS242 C) ?_
    rcases zite_e H with ⟨c23, H⟩ | ⟨c23, H⟩
    · refine zA_brF' (c := x22 = 0) rfl rfl rfl c23 ?_
      refine zA_push rfl rfl zkk5 ?_
      refine zA_go rfl rfl ?_
      exact zA_tr (L := [some (zrv x0), some (zrv x1), some (zI x2), some (zI x3), some (zI x4), some (zI x5), some (zI x6), some (zI x7), some (zI x8), some (zI x9), none, some (zI x11), none, none, none, none, none, none, none]) rfl rfl (zmS291_201 hk20 _ _ _ _ _ _ _ _ _ _ _ _ _ _ _ _ _ _ _ _ _ _ _ H)
    · refine zA_brT' (c := x22 = 0) rfl rfl rfl c23 ?_
      refine zA_push rfl rfl zkk7 ?_
      exact zA_tr (L := [some (zrv x0), some (zrv x1), some (zI x2), some (zI x3), some (zI x4), some (zI x5), some (zI x6), some (zI x7), some (zI x8), some (zI x9), none, some (zI x11), none, none, none, none, none, none, none]) rfl rfl (zmS291_201 hk20 _ _ _ _ _ _ _ _ _ _ _ _ _ _ _ _ _ _ _ _ _ _ _ H)
  · cases H
    exact zA_callX (as := [zI (x11 >>> ((16 : Int32) &&& 31)), zI (4 : Int32)]) (st' := [zI s7, zI s6, zI s5, zI s4, zI s3, zI s2, zI s1, zrv s0]) rfl rfl rfl (zsk4_w (by simp only [zsw, zcat_rv, show ∀ x : Int32, zcat (zI x) = 1 from fun _ => rfl]; decide)) (zmE242 _ _) rfl rfl rfl (zmS242 C)
def zm291_180 (k20 : zq → zq → Int32 → Int32 → Int32 → Int32 → Int32 → Int32 → Int32 → Int32 → zH → zRs Int32) (x0 : zq) (x1 : zq) (x2 : Int32) (x3 : Int32) (x4 : Int32) (x5 : Int32) (x6 : Int32) (x7 : Int32) (x8 : Int32) (x9 : Int32) (x11 : Int32) (x16 : Int32) (x17 : Int32) (s0 : zq) (s1 : Int32) (s2 : Int32) (s3 : Int32) (s4 : Int32) (s5 : Int32) (h : zH) : zRs Int32 :=
  if ((x11 >>> ((8 : Int32) &&& 31)) &&& (3 : Int32)) ≤ 0 then
    zm291_192 k20 x0 x1 x2 x3 x4 x5 x6 x7 x8 x9 x11 s0 s1 s2 s3 s4 s5 (x16 ||| (1 : Int32)) x17 h
  else
    zm291_192 k20 x0 x1 x2 x3 x4 x5 x6 x7 x8 x9 x11 s0 s1 s2 s3 s4 s5 (x16 ||| (1 : Int32)) (0 : Int32) h
theorem zmS291_180 {k20 : zq → zq → Int32 → Int32 → Int32 → Int32 → Int32 → Int32 → Int32 → Int32 → zH → zRs Int32} (hk20 : ∀ (x0 : zq) (x1 : zq) (x2 : Int32) (x3 : Int32) (x4 : Int32) (x5 : Int32) (x6 : Int32) (x7 : Int32) (x8 : Int32) (x9 : Int32) (h : zH) (r : Int32 ⊕ Nat) (h' : zH), k20 x0 x1 x2 x3 x4 x5 x6 x7 x8 x9 h = some (r, h') → zAt 291 20 [some (zrv x0), some (zrv x1), some (zI x2), some (zI x3), some (zI x4), some (zI x5), some (zI x6), some (zI x7), some (zI x8), some (zI x9), none, none, none, none, none, none, none, none, none] [] h (zoI r) h') : ∀ (x0 : zq) (x1 : zq) (x2 : Int32) (x3 : Int32) (x4 : Int32) (x5 : Int32) (x6 : Int32) (x7 : Int32) (x8 : Int32) (x9 : Int32) (x11 : Int32) (x16 : Int32) (x17 : Int32) (s0 : zq) (s1 : Int32) (s2 : Int32) (s3 : Int32) (s4 : Int32) (s5 : Int32) (h : zH) (r : Int32 ⊕ Nat) (h' : zH), zm291_180 k20 x0 x1 x2 x3 x4 x5 x6 x7 x8 x9 x11 x16 x17 s0 s1 s2 s3 s4 s5 h = some (r, h') → zAt 291 180 [some (zrv x0), some (zrv x1), some (zI x2), some (zI x3), some (zI x4), some (zI x5), some (zI x6), some (zI x7), some (zI x8), some (zI x9), none, some (zI x11), none, none, none, none, some (zI x16), some (zI x17), none] [zI s5, zI s4, zI s3, zI s2, zI s1, zrv s0] h (zoI r) h' := by
  intro x0 x1 x2 x3 x4 x5 x6 x7 x8 x9 x11 x16 x17 s0 s1 s2 s3 s4 s5 h r h' H
  unfold zm291_180 at H
  refine zA_ld rfl rfl rfl ?_
  refine zA_push rfl rfl zkk5 ?_
  refine zA_st (st' := [zI (x16 ||| (1 : Int32)), zI s5, zI s4, zI s3, zI s2, zI s1, zrv s0]) rfl rfl rfl rfl ?_
  refine zA_ld rfl rfl rfl ?_
  refine zA_push rfl rfl zkk0 ?_
  refine zA_st (st' := [zI (x11 >>> ((8 : Int32) &&& 31)), zI (x16 ||| (1 : Int32)), zI s5, zI s4, zI s3, zI s2, zI s1, zrv s0]) rfl rfl rfl rfl ?_
  refine zA_push rfl rfl zkk3 ?_
  refine zA_st (st' := [zI ((x11 >>> ((8 : Int32) &&& 31)) &&& (3 : Int32)), zI (x16 ||| (1 : Int32)), zI s5, zI s4, zI s3, zI s2, zI s1, zrv s0]) rfl rfl rfl rfl ?_
  rcases zite_e H with ⟨c21, H⟩ | ⟨c21, H⟩
  · refine zA_brT (c := ((x11 >>> ((8 : Int32) &&& 31)) &&& (3 : Int32)) ≤ 0) rfl rfl rfl c21 ?_
    refine zA_tr (L := [some (zrv x0), some (zrv x1), some (zI x2), some (zI x3), some (zI x4), some (zI x5), some (zI x6), some (zI x7), some (zI x8), some (zI x9), none, some (zI x11), none, none, none, none, none, some (zI x17), none]) rfl rfl ?_
    refine zA_ld rfl rfl rfl ?_
    exact zA_tr (L := [some (zrv x0), some (zrv x1), some (zI x2), some (zI x3), some (zI x4), some (zI x5), some (zI x6), some (zI x7), some (zI x8), some (zI x9), none, some (zI x11), none, none, none, none, none, none, none]) rfl rfl (zmS291_192 hk20 _ _ _ _ _ _ _ _ _ _ _ _ _ _ _ _ _ _ _ _ _ _ H)
  · refine zA_brF (c := ((x11 >>> ((8 : Int32) &&& 31)) &&& (3 : Int32)) ≤ 0) rfl rfl rfl c21 ?_
    refine zA_push rfl rfl zkk7 ?_
    refine zA_go rfl rfl ?_
    exact zA_tr (L := [some (zrv x0), some (zrv x1), some (zI x2), some (zI x3), some (zI x4), some (zI x5), some (zI x6), some (zI x7), some (zI x8), some (zI x9), none, some (zI x11), none, none, none, none, none, none, none]) rfl rfl (zmS291_192 hk20 _ _ _ _ _ _ _ _ _ _ _ _ _ _ _ _ _ _ _ _ _ _ H)
def zm291_159 (k20 : zq → zq → Int32 → Int32 → Int32 → Int32 → Int32 → Int32 → Int32 → Int32 → zH → zRs Int32) (x0 : zq) (x1 : zq) (x2 : Int32) (x3 : Int32) (x4 : Int32) (x5 : Int32) (x6 : Int32) (x7 : Int32) (x8 : Int32) (x9 : Int32) (x11 : Int32) (x13 : Int32) (x16 : Int32) (x17 : Int32) (s0 : Int32) (h : zH) : zRs Int32 :=
  zb (zm242 (x11 >>> ((2 : Int32) &&& 31)) (6 : Int32) h) fun x22 h21 =>
  zb (zm242 (x11 >>> ((6 : Int32) &&& 31)) (8 : Int32) h21) fun x24 h23 =>
  if s0 = 0 then
    zm291_180 k20 x0 x1 x2 x3 x4 x5 x6 x7 x8 x9 x11 x16 x17 x1 x13 x22 x24 s0 (-1 : Int32) h23
  else
    zm291_180 k20 x0 x1 x2 x3 x4 x5 x6 x7 x8 x9 x11 x16 x17 x1 x13 x22 x24 s0 ((1 : Int32) - x13) h23
theorem zmS291_159 {k20 : zq → zq → Int32 → Int32 → Int32 → Int32 → Int32 → Int32 → Int32 → Int32 → zH → zRs Int32} (hk20 : ∀ (x0 : zq) (x1 : zq) (x2 : Int32) (x3 : Int32) (x4 : Int32) (x5 : Int32) (x6 : Int32) (x7 : Int32) (x8 : Int32) (x9 : Int32) (h : zH) (r : Int32 ⊕ Nat) (h' : zH), k20 x0 x1 x2 x3 x4 x5 x6 x7 x8 x9 h = some (r, h') → zAt 291 20 [some (zrv x0), some (zrv x1), some (zI x2), some (zI x3), some (zI x4), some (zI x5), some (zI x6), some (zI x7), some (zI x8), some (zI x9), none, none, none, none, none, none, none, none, none] [] h (zoI r) h') : ∀ (x0 : zq) (x1 : zq) (x2 : Int32) (x3 : Int32) (x4 : Int32) (x5 : Int32) (x6 : Int32) (x7 : Int32) (x8 : Int32) (x9 : Int32) (x11 : Int32) (x13 : Int32) (x16 : Int32) (x17 : Int32) (s0 : Int32) (h : zH) (r : Int32 ⊕ Nat) (h' : zH), zm291_159 k20 x0 x1 x2 x3 x4 x5 x6 x7 x8 x9 x11 x13 x16 x17 s0 h = some (r, h') → zAt 291 159 [some (zrv x0), some (zrv x1), some (zI x2), some (zI x3), some (zI x4), some (zI x5), some (zI x6), some (zI x7), some (zI x8), some (zI x9), none, some (zI x11), none, some (zI x13), none, none, some (zI x16), some (zI x17), none] [zI s0] h (zoI r) h' := by
  intro x0 x1 x2 x3 x4 x5 x6 x7 x8 x9 x11 x13 x16 x17 s0 h r h' H
  unfold zm291_159 at H
  refine zA_ist2 rfl rfl rfl (zset1 (L' := [some (zrv x0), some (zrv x1), some (zI x2), some (zI x3), some (zI x4), some (zI x5), some (zI x6), some (zI x7), some (zI x8), some (zI x9), none, some (zI x11), none, some (zI x13), none, none, some (zI x16), some (zI x17), some (zI s0)]) rfl rfl (zpcV rfl rfl)) ?_
  refine zA_aldn rfl rfl rfl ?_
  refine zA_ld rfl rfl rfl ?_
  refine zA_ld rfl rfl rfl ?_
  refine zA_push rfl rfl zkk15 ?_
  refine zA_st (st' := [zI (x11 >>> ((2 : Int32) &&& 31)), zI x13, zrv x1]) rfl rfl rfl rfl ?_
  refine zA_push rfl rfl zkk14 ?_
  rcases zb_e H with ⟨x22, h21, C, H⟩ | ⟨E, h21, C, H⟩
  · refine zA_callV (as := [zI (x11 >>> ((2 : Int32) &&& 31)), zI (6 : Int32)]) (st' := [zI x13, zrv x1]) rfl rfl rfl rfl rfl (zmE242 _ _) rfl (zmS242 C) ?_
    refine zA_ld rfl rfl rfl ?_
    refine zA_push rfl rfl zkk14 ?_
    refine zA_st (st' := [zI (x11 >>> ((6 : Int32) &&& 31)), zI x22, zI x13, zrv x1]) rfl rfl rfl rfl ?_
    refine zA_push rfl rfl zkk0 ?_
    rcases zb_e H with ⟨x24, h23, C, H⟩ | ⟨E, h23, C, H⟩
    · refine zA_callV (as := [zI (x11 >>> ((6 : Int32) &&& 31)), zI (8 : Int32)]) (st' := [zI x22, zI x13, zrv x1]) rfl rfl rfl rfl rfl (zmE242 _ _) rfl (zmS242 C) ?_
      refine zA_ld rfl rfl rfl ?_
      refine zA_ld rfl rfl rfl ?_
      rcases zite_e H with ⟨c25, H⟩ | ⟨c25, H⟩
      · refine zA_brF' (c := s0 = 0) rfl rfl rfl c25 ?_
        refine zA_push rfl rfl zkk6 ?_
        refine zA_go rfl rfl ?_
        exact zA_tr (L := [some (zrv x0), some (zrv x1), some (zI x2), some (zI x3), some (zI x4), some (zI x5), some (zI x6), some (zI x7), some (zI x8), some (zI x9), none, some (zI x11), none, none, none, none, some (zI x16), some (zI x17), none]) rfl rfl (zmS291_180 hk20 _ _ _ _ _ _ _ _ _ _ _ _ _ _ _ _ _ _ _ _ _ _ H)
      · refine zA_brT' (c := s0 = 0) rfl rfl rfl c25 ?_
        refine zA_tr (L := [some (zrv x0), some (zrv x1), some (zI x2), some (zI x3), some (zI x4), some (zI x5), some (zI x6), some (zI x7), some (zI x8), some (zI x9), none, some (zI x11), none, some (zI x13), none, none, some (zI x16), some (zI x17), none]) rfl rfl ?_
        refine zA_push rfl rfl zkk5 ?_
        refine zA_ld rfl rfl rfl ?_
        refine zA_st (st' := [zI ((1 : Int32) - x13), zI s0, zI x24, zI x22, zI x13, zrv x1]) rfl rfl rfl rfl ?_
        exact zA_tr (L := [some (zrv x0), some (zrv x1), some (zI x2), some (zI x3), some (zI x4), some (zI x5), some (zI x6), some (zI x7), some (zI x8), some (zI x9), none, some (zI x11), none, none, none, none, some (zI x16), some (zI x17), none]) rfl rfl (zmS291_180 hk20 _ _ _ _ _ _ _ _ _ _ _ _ _ _ _ _ _ _ _ _ _ _ H)
    · cases H
      exact zA_callX (as := [zI (x11 >>> ((6 : Int32) &&& 31)), zI (8 : Int32)]) (st' := [zI x22, zI x13, zrv x1]) rfl rfl rfl rfl (zmE242 _ _) rfl rfl rfl (zmS242 C)
  · cases H
    exact zA_callX (as := [zI (x11 >>> ((2 : Int32) &&& 31)), zI (6 : Int32)]) (st' := [zI x13, zrv x1]) rfl rfl rfl rfl (zmE242 _ _) rfl rfl rfl (zmS242 C)
def zm291_144 (k20 : zq → zq → Int32 → Int32 → Int32 → Int32 → Int32 → Int32 → Int32 → Int32 → zH → zRs Int32) (x0 : zq) (x1 : zq) (x2 : Int32) (x3 : Int32) (x4 : Int32) (x5 : Int32) (x6 : Int32) (x7 : Int32) (x8 : Int32) (x9 : Int32) (x11 : Int32) (x13 : Int32) (x16 : Int32) (x17 : Int32) (h : zH) : zRs Int32 :=
  zb (zm242 (x11 >>> ((12 : Int32) &&& 31)) (3 : Int32) h) fun x22 h21 =>
  if x22 = 0 then
    zb (zm242 (x11 >>> ((14 : Int32) &&& 31)) (3 : Int32) h21) fun x25 h24 =>
    zm291_159 k20 x0 x1 x2 x3 x4 x5 x6 x7 x8 x9 x11 x13 x16 x17 ((1 : Int32) <<< (x25 &&& 31)) h24
  else
    zm291_159 k20 x0 x1 x2 x3 x4 x5 x6 x7 x8 x9 x11 x13 x16 x17 (0 : Int32) h21
theorem zmS291_144 {k20 : zq → zq → Int32 → Int32 → Int32 → Int32 → Int32 → Int32 → Int32 → Int32 → zH → zRs Int32} (hk20 : ∀ (x0 : zq) (x1 : zq) (x2 : Int32) (x3 : Int32) (x4 : Int32) (x5 : Int32) (x6 : Int32) (x7 : Int32) (x8 : Int32) (x9 : Int32) (h : zH) (r : Int32 ⊕ Nat) (h' : zH), k20 x0 x1 x2 x3 x4 x5 x6 x7 x8 x9 h = some (r, h') → zAt 291 20 [some (zrv x0), some (zrv x1), some (zI x2), some (zI x3), some (zI x4), some (zI x5), some (zI x6), some (zI x7), some (zI x8), some (zI x9), none, none, none, none, none, none, none, none, none] [] h (zoI r) h') : ∀ (x0 : zq) (x1 : zq) (x2 : Int32) (x3 : Int32) (x4 : Int32) (x5 : Int32) (x6 : Int32) (x7 : Int32) (x8 : Int32) (x9 : Int32) (x11 : Int32) (x13 : Int32) (x16 : Int32) (x17 : Int32) (h : zH) (r : Int32 ⊕ Nat) (h' : zH), zm291_144 k20 x0 x1 x2 x3 x4 x5 x6 x7 x8 x9 x11 x13 x16 x17 h = some (r, h') → zAt 291 144 [some (zrv x0), some (zrv x1), some (zI x2), some (zI x3), some (zI x4), some (zI x5), some (zI x6), some (zI x7), some (zI x8), some (zI x9), none, some (zI x11), none, some (zI x13), none, none, some (zI x16), some (zI x17), none] [] h (zoI r) h' := by
  intro x0 x1 x2 x3 x4 x5 x6 x7 x8 x9 x11 x13 x16 x17 h r h' H
  unfold zm291_144 at H
  refine zA_ld rfl rfl rfl ?_
  refine zA_push rfl rfl zkk33 ?_
  refine zA_st (st' := [zI (x11 >>> ((12 : Int32) &&& 31))]) rfl rfl rfl rfl ?_
  refine zA_push rfl rfl zkk3 ?_
  rcases zb_e H with ⟨x22, h21, C, H⟩ | ⟨E, h21, C, H⟩
  · refine zA_callV (as := [zI (x11 >>> ((12 : Int32) &&& 31)), zI (3 : Int32)]) (st' := []) rfl rfl rfl rfl rfl (zmE242 _ _) rfl (zmS242 C) ?_
    rcases zite_e H with ⟨c23, H⟩ | ⟨c23, H⟩
    · refine zA_brF' (c := x22 = 0) rfl rfl rfl c23 ?_
      refine zA_push rfl rfl zkk5 ?_
      refine zA_ld rfl rfl rfl ?_
      refine zA_push rfl rfl zkk36 ?_
      refine zA_st (st' := [zI (x11 >>> ((14 : Int32) &&& 31)), zI (1 : Int32)]) rfl rfl rfl rfl ?_
      refine zA_push rfl rfl zkk3 ?_
      rcases zb_e H with ⟨x25, h24, C, H⟩ | ⟨E, h24, C, H⟩
      · refine zA_callV (as := [zI (x11 >>> ((14 : Int32) &&& 31)), zI (3 : Int32)]) (st' := [zI (1 : Int32)]) rfl rfl rfl rfl rfl (zmE242 _ _) rfl (zmS242 C) ?_
        refine zA_st (st' := [zI ((1 : Int32) <<< (x25 &&& 31))]) rfl rfl rfl rfl ?_
        refine zA_go rfl rfl ?_
        exact zA_tr (L := [some (zrv x0), some (zrv x1), some (zI x2), some (zI x3), some (zI x4), some (zI x5), some (zI x6), some (zI x7), some (zI x8), some (zI x9), none, some (zI x11), none, some (zI x13), none, none, some (zI x16), some (zI x17), none]) rfl rfl (zmS291_159 hk20 _ _ _ _ _ _ _ _ _ _ _ _ _ _ _ _ _ _ H)
      · cases H
        exact zA_callX (as := [zI (x11 >>> ((14 : Int32) &&& 31)), zI (3 : Int32)]) (st' := [zI (1 : Int32)]) rfl rfl rfl rfl (zmE242 _ _) rfl rfl rfl (zmS242 C)
    · refine zA_brT' (c := x22 = 0) rfl rfl rfl c23 ?_
      refine zA_push rfl rfl zkk7 ?_
      exact zA_tr (L := [some (zrv x0), some (zrv x1), some (zI x2), some (zI x3), some (zI x4), some (zI x5), some (zI x6), some (zI x7), some (zI x8), some (zI x9), none, some (zI x11), none, some (zI x13), none, none, some (zI x16), some (zI x17), none]) rfl rfl (zmS291_159 hk20 _ _ _ _ _ _ _ _ _ _ _ _ _ _ _ _ _ _ H)
  · cases H
    exact zA_callX (as := [zI (x11 >>> ((12 : Int32) &&& 31)), zI (3 : Int32)]) (st' := []) rfl rfl rfl rfl (zmE242 _ _) rfl rfl rfl (zmS242 C)
def zm291_123 (k20 : zq → zq → Int32 → Int32 → Int32 → Int32 → Int32 → Int32 → Int32 → Int32 → zH → zRs Int32) (x0 : zq) (x1 : zq) (x2 : Int32) (x3 : Int32) (x4 : Int32) (x5 : Int32) (x6 : Int32) (x7 : Int32) (x8 : Int32) (x9 : Int32) (x11 : Int32) (x13 : Int32) (x15 : Int32) (h : zH) : zRs Int32 :=
  if (30 : Int32) ≤ x2 then
    zm291_594 k20 x0 x1 x2 x3 x4 x5 x6 x7 x8 x9 x11 x15 h
  else
    zb (zm242 (x11 >>> ((4 : Int32) &&& 31)) (255 : Int32) h) fun x23 h22 =>
    zlet ((1 : Int32) + x23) fun x24 =>
    zm291_136 (zm291_144 k20) zN0 x0 x1 x2 x3 x4 x5 x6 x7 x8 x9 x11 x13 x24 (0 : Int32) h22
theorem zmS291_123 {k20 : zq → zq → Int32 → Int32 → Int32 → Int32 → Int32 → Int32 → Int32 → Int32 → zH → zRs Int32} (hk20 : ∀ (x0 : zq) (x1 : zq) (x2 : Int32) (x3 : Int32) (x4 : Int32) (x5 : Int32) (x6 : Int32) (x7 : Int32) (x8 : Int32) (x9 : Int32) (h : zH) (r : Int32 ⊕ Nat) (h' : zH), k20 x0 x1 x2 x3 x4 x5 x6 x7 x8 x9 h = some (r, h') → zAt 291 20 [some (zrv x0), some (zrv x1), some (zI x2), some (zI x3), some (zI x4), some (zI x5), some (zI x6), some (zI x7), some (zI x8), some (zI x9), none, none, none, none, none, none, none, none, none] [] h (zoI r) h') : ∀ (x0 : zq) (x1 : zq) (x2 : Int32) (x3 : Int32) (x4 : Int32) (x5 : Int32) (x6 : Int32) (x7 : Int32) (x8 : Int32) (x9 : Int32) (x11 : Int32) (x13 : Int32) (x15 : Int32) (h : zH) (r : Int32 ⊕ Nat) (h' : zH), zm291_123 k20 x0 x1 x2 x3 x4 x5 x6 x7 x8 x9 x11 x13 x15 h = some (r, h') → zAt 291 123 [some (zrv x0), some (zrv x1), some (zI x2), some (zI x3), some (zI x4), some (zI x5), some (zI x6), some (zI x7), some (zI x8), some (zI x9), none, some (zI x11), none, some (zI x13), none, some (zI x15), none, none, none] [] h (zoI r) h' := by
  intro x0 x1 x2 x3 x4 x5 x6 x7 x8 x9 x11 x13 x15 h r h' H
  unfold zm291_123 at H
  refine zA_ldn rfl rfl rfl ?_
  refine zA_push rfl rfl zkk21 ?_
  rcases zite_e H with ⟨c21, H⟩ | ⟨c21, H⟩
  · refine zA_brT (c := (30 : Int32) ≤ x2) rfl rfl rfl c21 ?_
    exact zA_tr (L := [some (zrv x0), some (zrv x1), some (zI x2), some (zI x3), some (zI x4), some (zI x5), some (zI x6), some (zI x7), some (zI x8), some (zI x9), none, some (zI x11), none, none, none, some (zI x15), none, none, none]) rfl rfl (zmS291_594 hk20 _ _ _ _ _ _ _ _ _ _ _ _ _ _ _ H)
  · refine zA_brF (c := (30 : Int32) ≤ x2) rfl rfl rfl c21 ?_
    refine zA_push rfl rfl zkk5 ?_
    refine zA_ld rfl rfl rfl ?_
    refine zA_push rfl rfl zkk9 ?_
    refine zA_st (st' := [zI (x11 >>> ((4 : Int32) &&& 31)), zI (1 : Int32)]) rfl rfl rfl rfl ?_
    refine zA_push rfl rfl zkk19 ?_
    rcases zb_e H with ⟨x23, h22, C, H⟩ | ⟨E, h22, C, H⟩
    · refine zA_callV (as := [zI (x11 >>> ((4 : Int32) &&& 31)), zI (255 : Int32)]) (st' := [zI (1 : Int32)]) rfl rfl rfl rfl rfl (zmE242 _ _) rfl (zmS242 C) ?_
      refine zA_st (st' := [zI ((1 : Int32) + x23)]) rfl rfl rfl rfl ?_
      obtain ⟨x24, e25, H⟩ := zlet_e H
      refine zA_ist2 rfl rfl e25 (zset1 (L' := [some (zrv x0), some (zrv x1), some (zI x2), some (zI x3), some (zI x4), some (zI x5), some (zI x6), some (zI x7), some (zI x8), some (zI x9), none, some (zI x11), none, some (zI x13), none, some (zI x15), some (zI x24), none, none]) rfl rfl (zpcV rfl rfl)) ?_
      refine zA_push rfl rfl zkk7 ?_
      refine zA_ist2 rfl rfl rfl (zset1 (L' := [some (zrv x0), some (zrv x1), some (zI x2), some (zI x3), some (zI x4), some (zI x5), some (zI x6), some (zI x7), some (zI x8), some (zI x9), none, some (zI x11), none, some (zI x13), none, some (zI x15), some (zI x24), some (zI (0 : Int32)), none]) rfl rfl (zpcV rfl rfl)) ?_
      exact zA_tr (L := [some (zrv x0), some (zrv x1), some (zI x2), some (zI x3), some (zI x4), some (zI x5), some (zI x6), some (zI x7), some (zI x8), some (zI x9), none, some (zI x11), none, some (zI x13), none, none, some (zI x24), some (zI (0 : Int32)), none]) rfl rfl (zmS291_136 (zmS291_144 hk20) zN0 _ _ _ _ _ _ _ _ _ _ _ _ _ _ _ _ _ H)
    · cases H
      exact zA_callX (as := [zI (x11 >>> ((4 : Int32) &&& 31)), zI (255 : Int32)]) (st' := [zI (1 : Int32)]) rfl rfl rfl rfl (zmE242 _ _) rfl rfl rfl (zmS242 C)
def zm291_304 (k20 : zq → zq → Int32 → Int32 → Int32 → Int32 → Int32 → Int32 → Int32 → Int32 → zH → zRs Int32) (x0 : zq) (x1 : zq) (x2 : Int32) (x3 : Int32) (x4 : Int32) (x5 : Int32) (x6 : Int32) (x7 : Int32) (x8 : Int32) (x9 : Int32) (x11 : Int32) (s0 : Int32) (h : zH) : zRs Int32 :=
  zm291_594 k20 x0 x1 x2 x3 x4 x5 x6 x7 x8 x9 x11 s0 h
theorem zmS291_304 {k20 : zq → zq → Int32 → Int32 → Int32 → Int32 → Int32 → Int32 → Int32 → Int32 → zH → zRs Int32} (hk20 : ∀ (x0 : zq) (x1 : zq) (x2 : Int32) (x3 : Int32) (x4 : Int32) (x5 : Int32) (x6 : Int32) (x7 : Int32) (x8 : Int32) (x9 : Int32) (h : zH) (r : Int32 ⊕ Nat) (h' : zH), k20 x0 x1 x2 x3 x4 x5 x6 x7 x8 x9 h = some (r, h') → zAt 291 20 [some (zrv x0), some (zrv x1), some (zI x2), some (zI x3), some (zI x4), some (zI x5), some (zI x6), some (zI x7), some (zI x8), some (zI x9), none, none, none, none, none, none, none, none, none] [] h (zoI r) h') : ∀ (x0 : zq) (x1 : zq) (x2 : Int32) (x3 : Int32) (x4 : Int32) (x5 : Int32) (x6 : Int32) (x7 : Int32) (x8 : Int32) (x9 : Int32) (x11 : Int32) (s0 : Int32) (h : zH) (r : Int32 ⊕ Nat) (h' : zH), zm291_304 k20 x0 x1 x2 x3 x4 x5 x6 x7 x8 x9 x11 s0 h = some (r, h') → zAt 291 304 [some (zrv x0), some (zrv x1), some (zI x2), some (zI x3), some (zI x4), some (zI x5), some (zI x6), some (zI x7), some (zI x8), some (zI x9), none, some (zI x11), none, none, none, none, none, none, none] [zI s0] h (zoI r) h' := by
  intro x0 x1 x2 x3 x4 x5 x6 x7 x8 x9 x11 s0 h r h' H
  unfold zm291_304 at H
  refine zA_ist2 rfl rfl rfl (zset1 (L' := [some (zrv x0), some (zrv x1), some (zI x2), some (zI x3), some (zI x4), some (zI x5), some (zI x6), some (zI x7), some (zI x8), some (zI x9), none, some (zI x11), none, none, none, some (zI s0), none, none, none]) rfl rfl (zpcN rfl)) ?_
  refine zA_go rfl rfl ?_
  exact zA_tr (L := [some (zrv x0), some (zrv x1), some (zI x2), some (zI x3), some (zI x4), some (zI x5), some (zI x6), some (zI x7), some (zI x8), some (zI x9), none, some (zI x11), none, none, none, some (zI s0), none, none, none]) rfl rfl (zmS291_594 hk20 _ _ _ _ _ _ _ _ _ _ _ _ _ _ _ H)
def zm291_359 (k20 : zq → zq → Int32 → Int32 → Int32 → Int32 → Int32 → Int32 → Int32 → Int32 → zH → zRs Int32) (x0 : zq) (x1 : zq) (x2 : Int32) (x3 : Int32) (x4 : Int32) (x5 : Int32) (x6 : Int32) (x7 : Int32) (x8 : Int32) (x9 : Int32) (x11 : Int32) (s0 : Int32) (h : zH) : zRs Int32 :=
  zm291_594 k20 x0 x1 x2 x3 x4 x5 x6 x7 x8 x9 x11 s0 h
theorem zmS291_359 {k20 : zq → zq → Int32 → Int32 → Int32 → Int32 → Int32 → Int32 → Int32 → Int32 → zH → zRs Int32} (hk20 : ∀ (x0 : zq) (x1 : zq) (x2 : Int32) (x3 : Int32) (x4 : Int32) (x5 : Int32) (x6 : Int32) (x7 : Int32) (x8 : Int32) (x9 : Int32) (h : zH) (r : Int32 ⊕ Nat) (h' : zH), k20 x0 x1 x2 x3 x4 x5 x6 x7 x8 x9 h = some (r, h') → zAt 291 20 [some (zrv x0), some (zrv x1), some (zI x2), some (zI x3), some (zI x4), some (zI x5), some (zI x6), some (zI x7), some (zI x8), some (zI x9), none, none, none, none, none, none, none, none, none] [] h (zoI r) h') : ∀ (x0 : zq) (x1 : zq) (x2 : Int32) (x3 : Int32) (x4 : Int32) (x5 : Int32) (x6 : Int32) (x7 : Int32) (x8 : Int32) (x9 : Int32) (x11 : Int32) (s0 : Int32) (h : zH) (r : Int32 ⊕ Nat) (h' : zH), zm291_359 k20 x0 x1 x2 x3 x4 x5 x6 x7 x8 x9 x11 s0 h = some (r, h') → zAt 291 359 [some (zrv x0), some (zrv x1), some (zI x2), some (zI x3), some (zI x4), some (zI x5), some (zI x6), some (zI x7), some (zI x8), some (zI x9), none, some (zI x11), none, none, none, none, none, none, none] [zI s0] h (zoI r) h' := by
  intro x0 x1 x2 x3 x4 x5 x6 x7 x8 x9 x11 s0 h r h' H
  unfold zm291_359 at H
  refine zA_ist2 rfl rfl rfl (zset1 (L' := [some (zrv x0), some (zrv x1), some (zI x2), some (zI x3), some (zI x4), some (zI x5), some (zI x6), some (zI x7), some (zI x8), some (zI x9), none, some (zI x11), none, none, none, some (zI s0), none, none, none]) rfl rfl (zpcN rfl)) ?_
  refine zA_go rfl rfl ?_
  exact zA_tr (L := [some (zrv x0), some (zrv x1), some (zI x2), some (zI x3), some (zI x4), some (zI x5), some (zI x6), some (zI x7), some (zI x8), some (zI x9), none, some (zI x11), none, none, none, some (zI s0), none, none, none]) rfl rfl (zmS291_594 hk20 _ _ _ _ _ _ _ _ _ _ _ _ _ _ _ H)
def zm291_340 (k20 : zq → zq → Int32 → Int32 → Int32 → Int32 → Int32 → Int32 → Int32 → Int32 → zH → zRs Int32) (x0 : zq) (x1 : zq) (x2 : Int32) (x3 : Int32) (x4 : Int32) (x5 : Int32) (x6 : Int32) (x7 : Int32) (x8 : Int32) (x9 : Int32) (x11 : Int32) (x13 : Int32) (x16 : Int32) (x17 : Int32) (s0 : Int32) (h : zH) : zRs Int32 :=
  zlet (x5 + (1 : Int32)) fun x21 =>
  zb (zm242 (x11 >>> ((12 : Int32) &&& 31)) (2 : Int32) h) fun x24 h23 =>
  if x24 = 0 then
    if s0 = 0 then
      zm291_359 k20 x0 x1 x2 x3 x4 x21 x6 x7 x8 x9 x11 (0 : Int32) h23
    else
      zob 11 x1 fun p27 i28 =>
      zb (zm92 x1 x13 x16 h23) fun x32 h31 =>
      if x32 = x17 then
        zm291_359 k20 x0 x1 x2 x3 x4 x21 x6 x7 x8 x9 x11 (1 : Int32) h31
      else
        zm291_359 k20 x0 x1 x2 x3 x4 x21 x6 x7 x8 x9 x11 (0 : Int32) h31
  else
    zm291_594 k20 x0 x1 x2 x3 x4 x21 x6 x7 x8 x9 x11 s0 h23
theorem zmS291_340 {k20 : zq → zq → Int32 → Int32 → Int32 → Int32 → Int32 → Int32 → Int32 → Int32 → zH → zRs Int32} (hk20 : ∀ (x0 : zq) (x1 : zq) (x2 : Int32) (x3 : Int32) (x4 : Int32) (x5 : Int32) (x6 : Int32) (x7 : Int32) (x8 : Int32) (x9 : Int32) (h : zH) (r : Int32 ⊕ Nat) (h' : zH), k20 x0 x1 x2 x3 x4 x5 x6 x7 x8 x9 h = some (r, h') → zAt 291 20 [some (zrv x0), some (zrv x1), some (zI x2), some (zI x3), some (zI x4), some (zI x5), some (zI x6), some (zI x7), some (zI x8), some (zI x9), none, none, none, none, none, none, none, none, none] [] h (zoI r) h') : ∀ (x0 : zq) (x1 : zq) (x2 : Int32) (x3 : Int32) (x4 : Int32) (x5 : Int32) (x6 : Int32) (x7 : Int32) (x8 : Int32) (x9 : Int32) (x11 : Int32) (x13 : Int32) (x16 : Int32) (x17 : Int32) (s0 : Int32) (h : zH) (r : Int32 ⊕ Nat) (h' : zH), zm291_340 k20 x0 x1 x2 x3 x4 x5 x6 x7 x8 x9 x11 x13 x16 x17 s0 h = some (r, h') → zAt 291 340 [some (zrv x0), some (zrv x1), some (zI x2), some (zI x3), some (zI x4), some (zI x5), some (zI x6), some (zI x7), some (zI x8), some (zI x9), none, some (zI x11), none, some (zI x13), none, none, some (zI x16), some (zI x17), none] [zI s0] h (zoI r) h' := by
  intro x0 x1 x2 x3 x4 x5 x6 x7 x8 x9 x11 x13 x16 x17 s0 h r h' H
  unfold zm291_340 at H
  refine zA_ist2 rfl rfl rfl (zset1 (L' := [some (zrv x0), some (zrv x1), some (zI x2), some (zI x3), some (zI x4), some (zI x5), some (zI x6), some (zI x7), some (zI x8), some (zI x9), none, some (zI x11), none, some (zI x13), none, some (zI s0), some (zI x16), some (zI x17), none]) rfl rfl (zpcN rfl)) ?_
  obtain ⟨x21, e22, H⟩ := zlet_e H
  refine zA_inc rfl rfl rfl (e22.trans (congrArg (_ + ·) zkk8)) (zset1 (L' := [some (zrv x0), some (zrv x1), some (zI x2), some (zI x3), some (zI x4), some (zI x21), some (zI x6), some (zI x7), some (zI x8), some (zI x9), none, some (zI x11), none, some (zI x13), none, some (zI s0), some (zI x16), some (zI x17), none]) rfl rfl (zpcV rfl rfl)) ?_
  refine zA_ld rfl rfl rfl ?_
  refine zA_push rfl rfl zkk33 ?_
  refine zA_st (st' := [zI (x11 >>> ((12 : Int32) &&& 31))]) rfl rfl rfl rfl ?_
  refine zA_push rfl rfl zkk15 ?_
  rcases zb_e H with ⟨x24, h23, C, H⟩ | ⟨E, h23, C, H⟩
  · refine zA_callV (as := [zI (x11 >>> ((12 : Int32) &&& 31)), zI (2 : Int32)]) (st' := []) rfl rfl rfl rfl rfl (zmE242 _ _) rfl (zmS242 C) ?_
    rcases zite_e H with ⟨c25, H⟩ | ⟨c25, H⟩
    · refine zA_brF' (c := x24 = 0) rfl rfl rfl c25 ?_
      refine zA_ld rfl rfl rfl ?_
      rcases zite_e H with ⟨c26, H⟩ | ⟨c26, H⟩
      · refine zA_brT (c := s0 = 0) rfl rfl rfl c26 ?_
        refine zA_tr (L := [some (zrv x0), some (zrv x1), some (zI x2), some (zI x3), some (zI x4), some (zI x21), some (zI x6), some (zI x7), some (zI x8), some (zI x9), none, some (zI x11), none, none, none, none, none, none, none]) rfl rfl ?_
        refine zA_push rfl rfl zkk7 ?_
        exact zA_tr (L := [some (zrv x0), some (zrv x1), some (zI x2), some (zI x3), some (zI x4), some (zI x21), some (zI x6), some (zI x7), some (zI x8), some (zI x9), none, some (zI x11), none, none, none, none, none, none, none]) rfl rfl (zmS291_359 hk20 _ _ _ _ _ _ _ _ _ _ _ _ _ _ _ H)
      · refine zA_brF (c := s0 = 0) rfl rfl rfl c26 ?_
        refine zA_aldn rfl rfl rfl ?_
        refine zA_ld rfl rfl rfl ?_
        refine zA_ld rfl rfl rfl ?_
        obtain ⟨p27, i28, e29, c30, H⟩ := zob_e H
        rcases zb_e H with ⟨x32, h31, C, H⟩ | ⟨E, h31, C, H⟩
        · refine zA_callV (as := [zrv x1, zI x13, zI x16]) (st' := []) rfl rfl rfl (zrcv_Q e29 c30) rfl (zmE92 _ _ _) rfl (zmS92 C) ?_
          refine zA_ld rfl rfl rfl ?_
          rcases zite_e H with ⟨c33, H⟩ | ⟨c33, H⟩
          · refine zA_brF' (c := x32 = x17) rfl rfl rfl c33 ?_
            refine zA_push rfl rfl zkk5 ?_
            refine zA_go rfl rfl ?_
            exact zA_tr (L := [some (zrv x0), some (zrv x1), some (zI x2), some (zI x3), some (zI x4), some (zI x21), some (zI x6), some (zI x7), some (zI x8), some (zI x9), none, some (zI x11), none, none, none, none, none, none, none]) rfl rfl (zmS291_359 hk20 _ _ _ _ _ _ _ _ _ _ _ _ _ _ _ H)
          · refine zA_brT' (c := x32 = x17) rfl rfl rfl c33 ?_
            refine zA_tr (L := [some (zrv x0), some (zrv x1), some (zI x2), some (zI x3), some (zI x4), some (zI x21), some (zI x6), some (zI x7), some (zI x8), some (zI x9), none, some (zI x11), none, none, none, none, none, none, none]) rfl rfl ?_
            refine zA_push rfl rfl zkk7 ?_
            exact zA_tr (L := [some (zrv x0), some (zrv x1), some (zI x2), some (zI x3), some (zI x4), some (zI x21), some (zI x6), some (zI x7), some (zI x8), some (zI x9), none, some (zI x11), none, none, none, none, none, none, none]) rfl rfl (zmS291_359 hk20 _ _ _ _ _ _ _ _ _ _ _ _ _ _ _ H)
        · cases H
          exact zA_callX (as := [zrv x1, zI x13, zI x16]) (st' := []) rfl rfl (zrcv_Q e29 c30) rfl (zmE92 _ _ _) rfl rfl rfl (zmS92 C)
    · refine zA_brT' (c := x24 = 0) rfl rfl rfl c25 ?_
      refine zA_tr (L := [some (zrv x0), some (zrv x1), some (zI x2), some (zI x3), some (zI x4), some (zI x21), some (zI x6), some (zI x7), some (zI x8), some (zI x9), none, some (zI x11), none, none, none, some (zI s0), none, none, none]) rfl rfl ?_
      refine zA_go rfl rfl ?_
      exact zA_tr (L := [some (zrv x0), some (zrv x1), some (zI x2), some (zI x3), some (zI x4), some (zI x21), some (zI x6), some (zI x7), some (zI x8), some (zI x9), none, some (zI x11), none, none, none, some (zI s0), none, none, none]) rfl rfl (zmS291_594 hk20 _ _ _ _ _ _ _ _ _ _ _ _ _ _ _ H)
  · cases H
    exact zA_callX (as := [zI (x11 >>> ((12 : Int32) &&& 31)), zI (2 : Int32)]) (st' := []) rfl rfl rfl rfl (zmE242 _ _) rfl rfl rfl (zmS242 C)
def zm291_413 (k379 : zq → zq → Int32 → Int32 → Int32 → Int32 → Int32 → Int32 → Int32 → Int32 → Int32 → Int32 → Int32 → Int32 → Int32 → zH → zRs Int32) (x0 : zq) (x1 : zq) (x2 : Int32) (x3 : Int32) (x4 : Int32) (x5 : Int32) (x6 : Int32) (x7 : Int32) (x8 : Int32) (x9 : Int32) (x11 : Int32) (x13 : Int32) (x14 : Int32) (x16 : Int32) (s0 : Int32) (h : zH) : zRs Int32 :=
  zlet (x16 + (1 : Int32)) fun x21 =>
  k379 x0 x1 x2 x3 x4 x5 x6 x7 x8 x9 x11 x13 x14 s0 x21 h
theorem zmS291_413 {k379 : zq → zq → Int32 → Int32 → Int32 → Int32 → Int32 → Int32 → Int32 → Int32 → Int32 → Int32 → Int32 → Int32 → Int32 → zH → zRs Int32} (hk379 : ∀ (x0 : zq) (x1 : zq) (x2 : Int32) (x3 : Int32) (x4 : Int32) (x5 : Int32) (x6 : Int32) (x7 : Int32) (x8 : Int32) (x9 : Int32) (x11 : Int32) (x13 : Int32) (x14 : Int32) (x15 : Int32) (x16 : Int32) (h : zH) (r : Int32 ⊕ Nat) (h' : zH), k379 x0 x1 x2 x3 x4 x5 x6 x7 x8 x9 x11 x13 x14 x15 x16 h = some (r, h') → zAt 291 379 [some (zrv x0), some (zrv x1), some (zI x2), some (zI x3), some (zI x4), some (zI x5), some (zI x6), some (zI x7), some (zI x8), some (zI x9), none, some (zI x11), none, some (zI x13), some (zI x14), some (zI x15), some (zI x16), none, none] [] h (zoI r) h') : ∀ (x0 : zq) (x1 : zq) (x2 : Int32) (x3 : Int32) (x4 : Int32) (x5 : Int32) (x6 : Int32) (x7 : Int32) (x8 : Int32) (x9 : Int32) (x11 : Int32) (x13 : Int32) (x14 : Int32) (x16 : Int32) (s0 : Int32) (h : zH) (r : Int32 ⊕ Nat) (h' : zH), zm291_413 k379 x0 x1 x2 x3 x4 x5 x6 x7 x8 x9 x11 x13 x14 x16 s0 h = some (r, h') → zAt 291 413 [some (zrv x0), some (zrv x1), some (zI x2), some (zI x3), some (zI x4), some (zI x5), some (zI x6), some (zI x7), some (zI x8), some (zI x9), none, some (zI x11), none, some (zI x13), some (zI x14), none, some (zI x16), none, none] [zI s0] h (zoI r) h' := by
  intro x0 x1 x2 x3 x4 x5 x6 x7 x8 x9 x11 x13 x14 x16 s0 h r h' H
  unfold zm291_413 at H
  refine zA_ist2 rfl rfl rfl (zset1 (L' := [some (zrv x0), some (zrv x1), some (zI x2), some (zI x3), some (zI x4), some (zI x5), some (zI x6), some (zI x7), some (zI x8), some (zI x9), none, some (zI x11), none, some (zI x13), some (zI x14), some (zI s0), some (zI x16), none, none]) rfl rfl (zpcV rfl rfl)) ?_
  obtain ⟨x21, e22, H⟩ := zlet_e H
  refine zA_inc rfl rfl rfl (e22.trans (congrArg (_ + ·) zkk8)) (zset1 (L' := [some (zrv x0), some (zrv x1), some (zI x2), some (zI x3), some (zI x4), some (zI x5), some (zI x6), some (zI x7), some (zI x8), some (zI x9), none, some (zI x11), none, some (zI x13), some (zI x14), some (zI s0), some (zI x21), none, none]) rfl rfl (zpcV rfl rfl)) ?_
  refine zA_go rfl rfl ?_
  exact zA_tr (L := [some (zrv x0), some (zrv x1), some (zI x2), some (zI x3), some (zI x4), some (zI x5), some (zI x6), some (zI x7), some (zI x8), some (zI x9), none, some (zI x11), none, some (zI x13), some (zI x14), some (zI s0), some (zI x21), none, none]) rfl rfl (hk379 _ _ _ _ _ _ _ _ _ _ _ _ _ _ _ _ _ _ H)
def zm291_403 (k379 : zq → zq → Int32 → Int32 → Int32 → Int32 → Int32 → Int32 → Int32 → Int32 → Int32 → Int32 → Int32 → Int32 → Int32 → zH → zRs Int32) (x0 : zq) (x1 : zq) (x2 : Int32) (x3 : Int32) (x4 : Int32) (x5 : Int32) (x6 : Int32) (x7 : Int32) (x8 : Int32) (x9 : Int32) (x11 : Int32) (x13 : Int32) (x14 : Int32) (x16 : Int32) (s0 : zq) (s1 : Int32) (s2 : Int32) (s3 : Int32) (s4 : Int32) (h : zH) : zRs Int32 :=
  zb (zm242 (x11 >>> ((8 : Int32) &&& 31)) (300 : Int32) h) fun x22 h21 =>
  zob 11 s0 fun p23 i24 =>
  zb (zm101 s0 s1 s2 s3 s4 x22 h21) fun x28 h27 =>
  if x28 ≤ 0 then
    zm291_413 k379 x0 x1 x2 x3 x4 x5 x6 x7 x8 x9 x11 x13 x14 x16 (0 : Int32) h27
  else
    zm291_413 k379 x0 x1 x2 x3 x4 x5 x6 x7 x8 x9 x11 x13 x14 x16 (1 : Int32) h27
theorem zmS291_403 {k379 : zq → zq → Int32 → Int32 → Int32 → Int32 → Int32 → Int32 → Int32 → Int32 → Int32 → Int32 → Int32 → Int32 → Int32 → zH → zRs Int32} (hk379 : ∀ (x0 : zq) (x1 : zq) (x2 : Int32) (x3 : Int32) (x4 : Int32) (x5 : Int32) (x6 : Int32) (x7 : Int32) (x8 : Int32) (x9 : Int32) (x11 : Int32) (x13 : Int32) (x14 : Int32) (x15 : Int32) (x16 : Int32) (h : zH) (r : Int32 ⊕ Nat) (h' : zH), k379 x0 x1 x2 x3 x4 x5 x6 x7 x8 x9 x11 x13 x14 x15 x16 h = some (r, h') → zAt 291 379 [some (zrv x0), some (zrv x1), some (zI x2), some (zI x3), some (zI x4), some (zI x5), some (zI x6), some (zI x7), some (zI x8), some (zI x9), none, some (zI x11), none, some (zI x13), some (zI x14), some (zI x15), some (zI x16), none, none] [] h (zoI r) h') : ∀ (x0 : zq) (x1 : zq) (x2 : Int32) (x3 : Int32) (x4 : Int32) (x5 : Int32) (x6 : Int32) (x7 : Int32) (x8 : Int32) (x9 : Int32) (x11 : Int32) (x13 : Int32) (x14 : Int32) (x16 : Int32) (s0 : zq) (s1 : Int32) (s2 : Int32) (s3 : Int32) (s4 : Int32) (h : zH) (r : Int32 ⊕ Nat) (h' : zH), zm291_403 k379 x0 x1 x2 x3 x4 x5 x6 x7 x8 x9 x11 x13 x14 x16 s0 s1 s2 s3 s4 h = some (r, h') → zAt 291 403 [some (zrv x0), some (zrv x1), some (zI x2), some (zI x3), some (zI x4), some (zI x5), some (zI x6), some (zI x7), some (zI x8), some (zI x9), none, some (zI x11), none, some (zI x13), some (zI x14), none, some (zI x16), none, none] [zI s4, zI s3, zI s2, zI s1, zrv s0] h (zoI r) h' := by
  intro x0 x1 x2 x3 x4 x5 x6 x7 x8 x9 x11 x13 x14 x16 s0 s1 s2 s3 s4 h r h' H
  unfold zm291_403 at H
  refine zA_ld rfl rfl rfl ?_
  refine zA_push rfl rfl zkk0 ?_
  refine zA_st (st' := [zI (x11 >>> ((8 : Int32) &&& 31)), zI s4, zI s3, zI s2, zI s1, zrv s0]) rfl rfl rfl rfl ?_
  refine zA_push rfl rfl zkk47 ?_
  rcases zb_e H with ⟨x22, h21, C, H⟩ | ⟨E, h21, C, H⟩
  · refine zA_callV (as := [zI (x11 >>> ((8 : Int32) &&& 31)), zI (300 : Int32)]) (st' := [zI s4, zI s3, zI s2, zI s1, zrv s0]) rfl rfl rfl rfl (zsk4_w (by simp only [zsw, zcat_rv, show ∀ x : Int32, zcat (zI x) = 1 from fun _ => rfl]; decide)) (zmE242 _ _) rfl (zmS242 C) ?_
    obtain ⟨p23, i24, e25, c26, H⟩ := zob_e H
    rcases zb_e H with ⟨x28, h27, C, H⟩ | ⟨E, h27, C, H⟩
    · refine zA_callV (as := [zrv s0, zI s1, zI s2, zI s3, zI s4, zI x22]) (st' := []) rfl rfl rfl (zrcv_Q e25 c26) rfl (zmE101 _ _ _ _ _ _) rfl (zmS101 C) ?_
      rcases zite_e H with ⟨c29, H⟩ | ⟨c29, H⟩
      · refine zA_brT (c := x28 ≤ 0) rfl rfl rfl c29 ?_
        refine zA_push rfl rfl zkk7 ?_
        exact zA_tr (L := [some (zrv x0), some (zrv x1), some (zI x2), some (zI x3), some (zI x4), some (zI x5), some (zI x6), some (zI x7), some (zI x8), some (zI x9), none, some (zI x11), none, some (zI x13), some (zI x14), none, some (zI x16), none, none]) rfl rfl (zmS291_413 hk379 _ _ _ _ _ _ _ _ _ _ _ _ _ _ _ _ _ _ H)
      · refine zA_brF (c := x28 ≤ 0) rfl rfl rfl c29 ?_
        refine zA_push rfl rfl zkk5 ?_
        refine zA_go rfl rfl ?_
        exact zA_tr (L := [some (zrv x0), some (zrv x1), some (zI x2), some (zI x3), some (zI x4), some (zI x5), some (zI x6), some (zI x7), some (zI x8), some (zI x9), none, some (zI x11), none, some (zI x13), some (zI x14), none, some (zI x16), none, none]) rfl rfl (zmS291_413 hk379 _ _ _ _ _ _ _ _ _ _ _ _ _ _ _ _ _ _ H)
    · cases H
      exact zA_callX (as := [zrv s0, zI s1, zI s2, zI s3, zI s4, zI x22]) (st' := []) rfl rfl (zrcv_Q e25 c26) rfl (zmE101 _ _ _ _ _ _) rfl rfl rfl (zmS101 C)
  · cases H
    exact zA_callX (as := [zI (x11 >>> ((8 : Int32) &&& 31)), zI (300 : Int32)]) (st' := [zI s4, zI s3, zI s2, zI s1, zrv s0]) rfl rfl rfl (zsk4_w (by simp only [zsw, zcat_rv, show ∀ x : Int32, zcat (zI x) = 1 from fun _ => rfl]; decide)) (zmE242 _ _) rfl rfl rfl (zmS242 C)
def zm291_394 (k379 : zq → zq → Int32 → Int32 → Int32 → Int32 → Int32 → Int32 → Int32 → Int32 → Int32 → Int32 → Int32 → Int32 → Int32 → zH → zRs Int32) (x0 : zq) (x1 : zq) (x2 : Int32) (x3 : Int32) (x4 : Int32) (x5 : Int32) (x6 : Int32) (x7 : Int32) (x8 : Int32) (x9 : Int32) (x11 : Int32) (x13 : Int32) (x14 : Int32) (x16 : Int32) (s0 : zq) (s1 : Int32) (s2 : Int32) (s3 : Int32) (h : zH) : zRs Int32 :=
  zb (zm242 (x11 >>> (x16 &&& 31)) (3 : Int32) h) fun x22 h21 =>
  if x22 = 0 then
    zm291_403 k379 x0 x1 x2 x3 x4 x5 x6 x7 x8 x9 x11 x13 x14 x16 s0 s1 s2 s3 (1 : Int32) h21
  else
    zm291_403 k379 x0 x1 x2 x3 x4 x5 x6 x7 x8 x9 x11 x13 x14 x16 s0 s1 s2 s3 (0 : Int32) h21
theorem zmS291_394 {k379 : zq → zq → Int32 → Int32 → Int32 → Int32 → Int32 → Int32 → Int32 → Int32 → Int32 → Int32 → Int32 → Int32 → Int32 → zH → zRs Int32} (hk379 : ∀ (x0 : zq) (x1 : zq) (x2 : Int32) (x3 : Int32) (x4 : Int32) (x5 : Int32) (x6 : Int32) (x7 : Int32) (x8 : Int32) (x9 : Int32) (x11 : Int32) (x13 : Int32) (x14 : Int32) (x15 : Int32) (x16 : Int32) (h : zH) (r : Int32 ⊕ Nat) (h' : zH), k379 x0 x1 x2 x3 x4 x5 x6 x7 x8 x9 x11 x13 x14 x15 x16 h = some (r, h') → zAt 291 379 [some (zrv x0), some (zrv x1), some (zI x2), some (zI x3), some (zI x4), some (zI x5), some (zI x6), some (zI x7), some (zI x8), some (zI x9), none, some (zI x11), none, some (zI x13), some (zI x14), some (zI x15), some (zI x16), none, none] [] h (zoI r) h') : ∀ (x0 : zq) (x1 : zq) (x2 : Int32) (x3 : Int32) (x4 : Int32) (x5 : Int32) (x6 : Int32) (x7 : Int32) (x8 : Int32) (x9 : Int32) (x11 : Int32) (x13 : Int32) (x14 : Int32) (x16 : Int32) (s0 : zq) (s1 : Int32) (s2 : Int32) (s3 : Int32) (h : zH) (r : Int32 ⊕ Nat) (h' : zH), zm291_394 k379 x0 x1 x2 x3 x4 x5 x6 x7 x8 x9 x11 x13 x14 x16 s0 s1 s2 s3 h = some (r, h') → zAt 291 394 [some (zrv x0), some (zrv x1), some (zI x2), some (zI x3), some (zI x4), some (zI x5), some (zI x6), some (zI x7), some (zI x8), some (zI x9), none, some (zI x11), none, some (zI x13), some (zI x14), none, some (zI x16), none, none] [zI s3, zI s2, zI s1, zrv s0] h (zoI r) h' := by
  intro x0 x1 x2 x3 x4 x5 x6 x7 x8 x9 x11 x13 x14 x16 s0 s1 s2 s3 h r h' H
  unfold zm291_394 at H
  refine zA_ld rfl rfl rfl ?_
  refine zA_ld rfl rfl rfl ?_
  refine zA_st (st' := [zI (x11 >>> (x16 &&& 31)), zI s3, zI s2, zI s1, zrv s0]) rfl rfl rfl rfl ?_
  refine zA_push rfl rfl zkk3 ?_
  rcases zb_e H with ⟨x22, h21, C, H⟩ | ⟨E, h21, C, H⟩
  · refine zA_callV (as := [zI (x11 >>> (x16 &&& 31)), zI (3 : Int32)]) (st' := [zI s3, zI s2, zI s1, zrv s0]) rfl rfl rfl rfl rfl (zmE242 _ _) rfl (zmS242 C) ?_
    rcases zite_e H with ⟨c23, H⟩ | ⟨c23, H⟩
    · refine zA_brF' (c := x22 = 0) rfl rfl rfl c23 ?_
      refine zA_push rfl rfl zkk5 ?_
      refine zA_go rfl rfl ?_
      exact zA_tr (L := [some (zrv x0), some (zrv x1), some (zI x2), some (zI x3), some (zI x4), some (zI x5), some (zI x6), some (zI x7), some (zI x8), some (zI x9), none, some (zI x11), none, some (zI x13), some (zI x14), none, some (zI x16), none, none]) rfl rfl (zmS291_403 hk379 _ _ _ _ _ _ _ _ _ _ _ _ _ _ _ _ _ _ _ _ _ _ H)
    · refine zA_brT' (c := x22 = 0) rfl rfl rfl c23 ?_
      refine zA_push rfl rfl zkk7 ?_
      exact zA_tr (L := [some (zrv x0), some (zrv x1), some (zI x2), some (zI x3), some (zI x4), some (zI x5), some (zI x6), some (zI x7), some (zI x8), some (zI x9), none, some (zI x11), none, some (zI x13), some (zI x14), none, some (zI x16), none, none]) rfl rfl (zmS291_403 hk379 _ _ _ _ _ _ _ _ _ _ _ _ _ _ _ _ _ _ _ _ _ _ H)
  · cases H
    exact zA_callX (as := [zI (x11 >>> (x16 &&& 31)), zI (3 : Int32)]) (st' := [zI s3, zI s2, zI s1, zrv s0]) rfl rfl rfl rfl (zmE242 _ _) rfl rfl rfl (zmS242 C)
def zm291_379 (k416 : zq → zq → Int32 → Int32 → Int32 → Int32 → Int32 → Int32 → Int32 → Int32 → Int32 → Int32 → zH → zRs Int32) : Nat → zq → zq → Int32 → Int32 → Int32 → Int32 → Int32 → Int32 → Int32 → Int32 → Int32 → Int32 → Int32 → Int32 → Int32 → zH → zRs Int32
  | 0, _, _, _, _, _, _, _, _, _, _, _, _, _, _, _, _ => none
  | n + 1, x0, x1, x2, x3, x4, x5, x6, x7, x8, x9, x11, x13, x14, x15, x16, h =>
    if (6 : Int32) ≤ x16 then
      k416 x0 x1 x2 x3 x4 x5 x6 x7 x8 x9 x11 x15 h
    else
      if x15 = 0 then
        zm291_413 (zm291_379 k416 n) x0 x1 x2 x3 x4 x5 x6 x7 x8 x9 x11 x13 x14 x16 (0 : Int32) h
      else
        if (x16 - x16 / (2 : Int32) * (2 : Int32)) = 0 then
          zm291_394 (zm291_379 k416 n) x0 x1 x2 x3 x4 x5 x6 x7 x8 x9 x11 x13 x14 x16 x1 x13 x14 (1 : Int32) h
        else
          zm291_394 (zm291_379 k416 n) x0 x1 x2 x3 x4 x5 x6 x7 x8 x9 x11 x13 x14 x16 x1 x13 x14 (0 : Int32) h
theorem zmS291_379 {k416 : zq → zq → Int32 → Int32 → Int32 → Int32 → Int32 → Int32 → Int32 → Int32 → Int32 → Int32 → zH → zRs Int32} (hk416 : ∀ (x0 : zq) (x1 : zq) (x2 : Int32) (x3 : Int32) (x4 : Int32) (x5 : Int32) (x6 : Int32) (x7 : Int32) (x8 : Int32) (x9 : Int32) (x11 : Int32) (x15 : Int32) (h : zH) (r : Int32 ⊕ Nat) (h' : zH), k416 x0 x1 x2 x3 x4 x5 x6 x7 x8 x9 x11 x15 h = some (r, h') → zAt 291 416 [some (zrv x0), some (zrv x1), some (zI x2), some (zI x3), some (zI x4), some (zI x5), some (zI x6), some (zI x7), some (zI x8), some (zI x9), none, some (zI x11), none, none, none, some (zI x15), none, none, none] [] h (zoI r) h') : ∀ (n : Nat) (x0 : zq) (x1 : zq) (x2 : Int32) (x3 : Int32) (x4 : Int32) (x5 : Int32) (x6 : Int32) (x7 : Int32) (x8 : Int32) (x9 : Int32) (x11 : Int32) (x13 : Int32) (x14 : Int32) (x15 : Int32) (x16 : Int32) (h : zH) (r : Int32 ⊕ Nat) (h' : zH), zm291_379 k416 n x0 x1 x2 x3 x4 x5 x6 x7 x8 x9 x11 x13 x14 x15 x16 h = some (r, h') → zAt 291 379 [some (zrv x0), some (zrv x1), some (zI x2), some (zI x3), some (zI x4), some (zI x5), some (zI x6), some (zI x7), some (zI x8), some (zI x9), none, some (zI x11), none, some (zI x13), some (zI x14), some (zI x15), some (zI x16), none, none] [] h (zoI r) h' := by
  intro n
  induction n with
  | zero => intro x0 x1 x2 x3 x4 x5 x6 x7 x8 x9 x11 x13 x14 x15 x16 h r h' H; cases H
  | succ n ih =>
    intro x0 x1 x2 x3 x4 x5 x6 x7 x8 x9 x11 x13 x14 x15 x16 h r h' H
    unfold zm291_379 at H
    refine zA_ld rfl rfl rfl ?_
    refine zA_push rfl rfl zkk14 ?_
    rcases zite_e H with ⟨c21, H⟩ | ⟨c21, H⟩
    · refine zA_brT (c := (6 : Int32) ≤ x16) rfl rfl rfl c21 ?_
      exact zA_tr (L := [some (zrv x0), some (zrv x1), some (zI x2), some (zI x3), some (zI x4), some (zI x5), some (zI x6), some (zI x7), some (zI x8), some (zI x9), none, some (zI x11), none, none, none, some (zI x15), none, none, none]) rfl rfl (hk416 _ _ _ _ _ _ _ _ _ _ _ _ _ _ _ H)
    · refine zA_brF (c := (6 : Int32) ≤ x16) rfl rfl rfl c21 ?_
      refine zA_ld rfl rfl rfl ?_
      rcases zite_e H with ⟨c22, H⟩ | ⟨c22, H⟩
      · refine zA_brT (c := x15 = 0) rfl rfl rfl c22 ?_
        refine zA_tr (L := [some (zrv x0), some (zrv x1), some (zI x2), some (zI x3), some (zI x4), some (zI x5), some (zI x6), some (zI x7), some (zI x8), some (zI x9), none, some (zI x11), none, some (zI x13), some (zI x14), none, some (zI x16), none, none]) rfl rfl ?_
        refine zA_push rfl rfl zkk7 ?_
        exact zA_tr (L := [some (zrv x0), some (zrv x1), some (zI x2), some (zI x3), some (zI x4), some (zI x5), some (zI x6), some (zI x7), some (zI x8), some (zI x9), none, some (zI x11), none, some (zI x13), some (zI x14), none, some (zI x16), none, none]) rfl rfl (zmS291_413 ih _ _ _ _ _ _ _ _ _ _ _ _ _ _ _ _ _ _ H)
      · refine zA_brF (c := x15 = 0) rfl rfl rfl c22 ?_
        refine zA_aldn rfl rfl rfl ?_
        refine zA_ld rfl rfl rfl ?_
        refine zA_ld rfl rfl rfl ?_
        refine zA_ld rfl rfl rfl ?_
        refine zA_push rfl rfl zkk15 ?_
        refine zA_rem rfl rfl (by decide) ?_
        rcases zite_e H with ⟨c24, H⟩ | ⟨c24, H⟩
        · refine zA_brF' (c := (x16 - x16 / (2 : Int32) * (2 : Int32)) = 0) rfl rfl rfl c24 ?_
          refine zA_push rfl rfl zkk5 ?_
          refine zA_go rfl rfl ?_
          exact zA_tr (L := [some (zrv x0), some (zrv x1), some (zI x2), some (zI x3), some (zI x4), some (zI x5), some (zI x6), some (zI x7), some (zI x8), some (zI x9), none, some (zI x11), none, some (zI x13), some (zI x14), none, some (zI x16), none, none]) rfl rfl (zmS291_394 ih _ _ _ _ _ _ _ _ _ _ _ _ _ _ _ _ _ _ _ _ _ H)
        · refine zA_brT' (c := (x16 - x16 / (2 : Int32) * (2 : Int32)) = 0) rfl rfl rfl c24 ?_
          refine zA_tr (L := [some (zrv x0), some (zrv x1), some (zI x2), some (zI x3), some (zI x4), some (zI x5), some (zI x6), some (zI x7), some (zI x8), some (zI x9), none, some (zI x11), none, some (zI x13), some (zI x14), none, some (zI x16), none, none]) rfl rfl ?_
          refine zA_push rfl rfl zkk7 ?_
          exact zA_tr (L := [some (zrv x0), some (zrv x1), some (zI x2), some (zI x3), some (zI x4), some (zI x5), some (zI x6), some (zI x7), some (zI x8), some (zI x9), none, some (zI x11), none, some (zI x13), some (zI x14), none, some (zI x16), none, none]) rfl rfl (zmS291_394 ih _ _ _ _ _ _ _ _ _ _ _ _ _ _ _ _ _ _ _ _ _ H)
def zm291_416 (k20 : zq → zq → Int32 → Int32 → Int32 → Int32 → Int32 → Int32 → Int32 → Int32 → zH → zRs Int32) (x0 : zq) (x1 : zq) (x2 : Int32) (x3 : Int32) (x4 : Int32) (x5 : Int32) (x6 : Int32) (x7 : Int32) (x8 : Int32) (x9 : Int32) (x11 : Int32) (x15 : Int32) (h : zH) : zRs Int32 :=
  zlet (x6 + (6 : Int32)) fun x21 =>
  zm291_594 k20 x0 x1 x2 x3 x4 x5 x21 x7 x8 x9 x11 x15 h
theorem zmS291_416 {k20 : zq → zq → Int32 → Int32 → Int32 → Int32 → Int32 → Int32 → Int32 → Int32 → zH → zRs Int32} (hk20 : ∀ (x0 : zq) (x1 : zq) (x2 : Int32) (x3 : Int32) (x4 : Int32) (x5 : Int32) (x6 : Int32) (x7 : Int32) (x8 : Int32) (x9 : Int32) (h : zH) (r : Int32 ⊕ Nat) (h' : zH), k20 x0 x1 x2 x3 x4 x5 x6 x7 x8 x9 h = some (r, h') → zAt 291 20 [some (zrv x0), some (zrv x1), some (zI x2), some (zI x3), some (zI x4), some (zI x5), some (zI x6), some (zI x7), some (zI x8), some (zI x9), none, none, none, none, none, none, none, none, none] [] h (zoI r) h') : ∀ (x0 : zq) (x1 : zq) (x2 : Int32) (x3 : Int32) (x4 : Int32) (x5 : Int32) (x6 : Int32) (x7 : Int32) (x8 : Int32) (x9 : Int32) (x11 : Int32) (x15 : Int32) (h : zH) (r : Int32 ⊕ Nat) (h' : zH), zm291_416 k20 x0 x1 x2 x3 x4 x5 x6 x7 x8 x9 x11 x15 h = some (r, h') → zAt 291 416 [some (zrv x0), some (zrv x1), some (zI x2), some (zI x3), some (zI x4), some (zI x5), some (zI x6), some (zI x7), some (zI x8), some (zI x9), none, some (zI x11), none, none, none, some (zI x15), none, none, none] [] h (zoI r) h' := by
  intro x0 x1 x2 x3 x4 x5 x6 x7 x8 x9 x11 x15 h r h' H
  unfold zm291_416 at H
  obtain ⟨x21, e22, H⟩ := zlet_e H
  refine zA_inc rfl rfl rfl (e22.trans (congrArg (_ + ·) zkk48)) (zset1 (L' := [some (zrv x0), some (zrv x1), some (zI x2), some (zI x3), some (zI x4), some (zI x5), some (zI x21), some (zI x7), some (zI x8), some (zI x9), none, some (zI x11), none, none, none, some (zI x15), none, none, none]) rfl rfl (zpcV rfl rfl)) ?_
  refine zA_go rfl rfl ?_
  exact zA_tr (L := [some (zrv x0), some (zrv x1), some (zI x2), some (zI x3), some (zI x4), some (zI x5), some (zI x21), some (zI x7), some (zI x8), some (zI x9), none, some (zI x11), none, none, none, some (zI x15), none, none, none]) rfl rfl (zmS291_594 hk20 _ _ _ _ _ _ _ _ _ _ _ _ _ _ _ H)
def zm291_433 (k20 : zq → zq → Int32 → Int32 → Int32 → Int32 → Int32 → Int32 → Int32 → Int32 → zH → zRs Int32) (x0 : zq) (x1 : zq) (x2 : Int32) (x3 : Int32) (x4 : Int32) (x5 : Int32) (x6 : Int32) (x7 : Int32) (x8 : Int32) (x9 : Int32) (x11 : Int32) (x13 : Int32) (s0 : Int32) (h : zH) : zRs Int32 :=
  zb (zm242 (x11 >>> ((4 : Int32) &&& 31)) (2 : Int32) h) fun x22 h21 =>
  if x22 = 0 then
    zob 11 x1 fun p24 i25 =>
    zb (zm106 x1 x13 h21) fun x29 h28 =>
    zm291_594 k20 x0 x1 x2 x3 x4 x5 x6 x7 x8 x9 x11 s0 h28
  else
    zm291_594 k20 x0 x1 x2 x3 x4 x5 x6 x7 x8 x9 x11 s0 h21
theorem zmS291_433 {k20 : zq → zq → Int32 → Int32 → Int32 → Int32 → Int32 → Int32 → Int32 → Int32 → zH → zRs Int32} (hk20 : ∀ (x0 : zq) (x1 : zq) (x2 : Int32) (x3 : Int32) (x4 : Int32) (x5 : Int32) (x6 : Int32) (x7 : Int32) (x8 : Int32) (x9 : Int32) (h : zH) (r : Int32 ⊕ Nat) (h' : zH), k20 x0 x1 x2 x3 x4 x5 x6 x7 x8 x9 h = some (r, h') → zAt 291 20 [some (zrv x0), some (zrv x1), some (zI x2), some (zI x3), some (zI x4), some (zI x5), some (zI x6), some (zI x7), some (zI x8), some (zI x9), none, none, none, none, none, none, none, none, none] [] h (zoI r) h') : ∀ (x0 : zq) (x1 : zq) (x2 : Int32) (x3 : Int32) (x4 : Int32) (x5 : Int32) (x6 : Int32) (x7 : Int32) (x8 : Int32) (x9 : Int32) (x11 : Int32) (x13 : Int32) (s0 : Int32) (h : zH) (r : Int32 ⊕ Nat) (h' : zH), zm291_433 k20 x0 x1 x2 x3 x4 x5 x6 x7 x8 x9 x11 x13 s0 h = some (r, h') → zAt 291 433 [some (zrv x0), some (zrv x1), some (zI x2), some (zI x3), some (zI x4), some (zI x5), some (zI x6), some (zI x7), some (zI x8), some (zI x9), none, some (zI x11), none, some (zI x13), none, none, none, none, none] [zI s0] h (zoI r) h' := by
  intro x0 x1 x2 x3 x4 x5 x6 x7 x8 x9 x11 x13 s0 h r h' H
  unfold zm291_433 at H
  refine zA_ist2 rfl rfl rfl (zset1 (L' := [some (zrv x0), some (zrv x1), some (zI x2), some (zI x3), some (zI x4), some (zI x5), some (zI x6), some (zI x7), some (zI x8), some (zI x9), none, some (zI x11), none, some (zI x13), none, some (zI s0), none, none, none]) rfl rfl (zpcN rfl)) ?_
  refine zA_ld rfl rfl rfl ?_
  refine zA_push rfl rfl zkk9 ?_
  refine zA_st (st' := [zI (x11 >>> ((4 : Int32) &&& 31))]) rfl rfl rfl rfl ?_
  refine zA_push rfl rfl zkk15 ?_
  rcases zb_e H with ⟨x22, h21, C, H⟩ | ⟨E, h21, C, H⟩
  · refine zA_callV (as := [zI (x11 >>> ((4 : Int32) &&& 31)), zI (2 : Int32)]) (st' := []) rfl rfl rfl rfl rfl (zmE242 _ _) rfl (zmS242 C) ?_
    rcases zite_e H with ⟨c23, H⟩ | ⟨c23, H⟩
    · refine zA_brF' (c := x22 = 0) rfl rfl rfl c23 ?_
      refine zA_aldn rfl rfl rfl ?_
      refine zA_ld rfl rfl rfl ?_
      obtain ⟨p24, i25, e26, c27, H⟩ := zob_e H
      rcases zb_e H with ⟨x29, h28, C, H⟩ | ⟨E, h28, C, H⟩
      · refine zA_callV (as := [zrv x1, zI x13]) (st' := []) rfl rfl rfl (zrcv_Q e26 c27) rfl (zmE106 _ _) rfl (zmS106 C) ?_
        refine zA_pop rfl rfl rfl ?_
        refine zA_tr (L := [some (zrv x0), some (zrv x1), some (zI x2), some (zI x3), some (zI x4), some (zI x5), some (zI x6), some (zI x7), some (zI x8), some (zI x9), none, some (zI x11), none, none, none, some (zI s0), none, none, none]) rfl rfl ?_
        refine zA_go rfl rfl ?_
        exact zA_tr (L := [some (zrv x0), some (zrv x1), some (zI x2), some (zI x3), some (zI x4), some (zI x5), some (zI x6), some (zI x7), some (zI x8), some (zI x9), none, some (zI x11), none, none, none, some (zI s0), none, none, none]) rfl rfl (zmS291_594 hk20 _ _ _ _ _ _ _ _ _ _ _ _ _ _ _ H)
      · cases H
        exact zA_callX (as := [zrv x1, zI x13]) (st' := []) rfl rfl (zrcv_Q e26 c27) rfl (zmE106 _ _) rfl rfl rfl (zmS106 C)
    · refine zA_brT' (c := x22 = 0) rfl rfl rfl c23 ?_
      refine zA_tr (L := [some (zrv x0), some (zrv x1), some (zI x2), some (zI x3), some (zI x4), some (zI x5), some (zI x6), some (zI x7), some (zI x8), some (zI x9), none, some (zI x11), none, none, none, some (zI s0), none, none, none]) rfl rfl ?_
      refine zA_go rfl rfl ?_
      exact zA_tr (L := [some (zrv x0), some (zrv x1), some (zI x2), some (zI x3), some (zI x4), some (zI x5), some (zI x6), some (zI x7), some (zI x8), some (zI x9), none, some (zI x11), none, none, none, some (zI s0), none, none, none]) rfl rfl (zmS291_594 hk20 _ _ _ _ _ _ _ _ _ _ _ _ _ _ _ H)
  · cases H
    exact zA_callX (as := [zI (x11 >>> ((4 : Int32) &&& 31)), zI (2 : Int32)]) (st' := []) rfl rfl rfl rfl (zmE242 _ _) rfl rfl rfl (zmS242 C)
def zm291_492 (k20 : zq → zq → Int32 → Int32 → Int32 → Int32 → Int32 → Int32 → Int32 → Int32 → zH → zRs Int32) (x0 : zq) (x1 : zq) (x2 : Int32) (x3 : Int32) (x4 : Int32) (x5 : Int32) (x6 : Int32) (x7 : Int32) (x8 : Int32) (x9 : Int32) (x11 : Int32) (s0 : Int32) (h : zH) : zRs Int32 :=
  zm291_594 k20 x0 x1 x2 x3 x4 x5 x6 x7 x8 x9 x11 s0 h
theorem zmS291_492 {k20 : zq → zq → Int32 → Int32 → Int32 → Int32 → Int32 → Int32 → Int32 → Int32 → zH → zRs Int32} (hk20 : ∀ (x0 : zq) (x1 : zq) (x2 : Int32) (x3 : Int32) (x4 : Int32) (x5 : Int32) (x6 : Int32) (x7 : Int32) (x8 : Int32) (x9 : Int32) (h : zH) (r : Int32 ⊕ Nat) (h' : zH), k20 x0 x1 x2 x3 x4 x5 x6 x7 x8 x9 h = some (r, h') → zAt 291 20 [some (zrv x0), some (zrv x1), some (zI x2), some (zI x3), some (zI x4), some (zI x5), some (zI x6), some (zI x7), some (zI x8), some (zI x9), none, none, none, none, none, none, none, none, none] [] h (zoI r) h') : ∀ (x0 : zq) (x1 : zq) (x2 : Int32) (x3 : Int32) (x4 : Int32) (x5 : Int32) (x6 : Int32) (x7 : Int32) (x8 : Int32) (x9 : Int32) (x11 : Int32) (s0 : Int32) (h : zH) (r : Int32 ⊕ Nat) (h' : zH), zm291_492 k20 x0 x1 x2 x3 x4 x5 x6 x7 x8 x9 x11 s0 h = some (r, h') → zAt 291 492 [some (zrv x0), some (zrv x1), some (zI x2), some (zI x3), some (zI x4), some (zI x5), some (zI x6), some (zI x7), some (zI x8), some (zI x9), none, some (zI x11), none, none, none, none, none, none, none] [zI s0] h (zoI r) h' := by
  intro x0 x1 x2 x3 x4 x5 x6 x7 x8 x9 x11 s0 h r h' H
  unfold zm291_492 at H
  refine zA_ist2 rfl rfl rfl (zset1 (L' := [some (zrv x0), some (zrv x1), some (zI x2), some (zI x3), some (zI x4), some (zI x5), some (zI x6), some (zI x7), some (zI x8), some (zI x9), none, some (zI x11), none, none, none, some (zI s0), none, none, none]) rfl rfl (zpcN rfl)) ?_
  refine zA_go rfl rfl ?_
  exact zA_tr (L := [some (zrv x0), some (zrv x1), some (zI x2), some (zI x3), some (zI x4), some (zI x5), some (zI x6), some (zI x7), some (zI x8), some (zI x9), none, some (zI x11), none, none, none, some (zI s0), none, none, none]) rfl rfl (zmS291_594 hk20 _ _ _ _ _ _ _ _ _ _ _ _ _ _ _ H)
def zm291_475 (k20 : zq → zq → Int32 → Int32 → Int32 → Int32 → Int32 → Int32 → Int32 → Int32 → zH → zRs Int32) (x0 : zq) (x1 : zq) (x2 : Int32) (x3 : Int32) (x4 : Int32) (x5 : Int32) (x6 : Int32) (x7 : Int32) (x8 : Int32) (x9 : Int32) (x11 : Int32) (x14 : Int32) (s0 : Int32) (h : zH) : zRs Int32 :=
  zob 11 x1 fun p21 i22 =>
  zb (zm110 x1 x14 (3 : Int32) h) fun x26 h25 =>
  if s0 = 0 then
    zm291_492 k20 x0 x1 x2 x3 x4 x5 x6 x7 x8 x9 x11 (0 : Int32) h25
  else
    zb (zm110 x1 x14 x26 h25) fun x29 h28 =>
    if x29 = (3 : Int32) then
      zm291_492 k20 x0 x1 x2 x3 x4 x5 x6 x7 x8 x9 x11 (1 : Int32) h28
    else
      zm291_492 k20 x0 x1 x2 x3 x4 x5 x6 x7 x8 x9 x11 (0 : Int32) h28
theorem zmS291_475 {k20 : zq → zq → Int32 → Int32 → Int32 → Int32 → Int32 → Int32 → Int32 → Int32 → zH → zRs Int32} (hk20 : ∀ (x0 : zq) (x1 : zq) (x2 : Int32) (x3 : Int32) (x4 : Int32) (x5 : Int32) (x6 : Int32) (x7 : Int32) (x8 : Int32) (x9 : Int32) (h : zH) (r : Int32 ⊕ Nat) (h' : zH), k20 x0 x1 x2 x3 x4 x5 x6 x7 x8 x9 h = some (r, h') → zAt 291 20 [some (zrv x0), some (zrv x1), some (zI x2), some (zI x3), some (zI x4), some (zI x5), some (zI x6), some (zI x7), some (zI x8), some (zI x9), none, none, none, none, none, none, none, none, none] [] h (zoI r) h') : ∀ (x0 : zq) (x1 : zq) (x2 : Int32) (x3 : Int32) (x4 : Int32) (x5 : Int32) (x6 : Int32) (x7 : Int32) (x8 : Int32) (x9 : Int32) (x11 : Int32) (x14 : Int32) (s0 : Int32) (h : zH) (r : Int32 ⊕ Nat) (h' : zH), zm291_475 k20 x0 x1 x2 x3 x4 x5 x6 x7 x8 x9 x11 x14 s0 h = some (r, h') → zAt 291 475 [some (zrv x0), some (zrv x1), some (zI x2), some (zI x3), some (zI x4), some (zI x5), some (zI x6), some (zI x7), some (zI x8), some (zI x9), none, some (zI x11), none, none, some (zI x14), none, none, none, none] [zI s0] h (zoI r) h' := by
  intro x0 x1 x2 x3 x4 x5 x6 x7 x8 x9 x11 x14 s0 h r h' H
  unfold zm291_475 at H
  refine zA_ist2 rfl rfl rfl (zset1 (L' := [some (zrv x0), some (zrv x1), some (zI x2), some (zI x3), some (zI x4), some (zI x5), some (zI x6), some (zI x7), some (zI x8), some (zI x9), none, some (zI x11), none, none, some (zI x14), some (zI s0), none, none, none]) rfl rfl (zpcV rfl rfl)) ?_
  refine zA_aldn rfl rfl rfl ?_
  refine zA_ld rfl rfl rfl ?_
  refine zA_push rfl rfl zkk3 ?_
  obtain ⟨p21, i22, e23, c24, H⟩ := zob_e H
  rcases zb_e H with ⟨x26, h25, C, H⟩ | ⟨E, h25, C, H⟩
  · refine zA_callV (as := [zrv x1, zI x14, zI (3 : Int32)]) (st' := []) rfl rfl rfl (zrcv_Q e23 c24) rfl (zmE110 _ _ _) rfl (zmS110 C) ?_
    refine zA_ist2 rfl rfl rfl (zset1 (L' := [some (zrv x0), some (zrv x1), some (zI x2), some (zI x3), some (zI x4), some (zI x5), some (zI x6), some (zI x7), some (zI x8), some (zI x9), none, some (zI x11), none, none, some (zI x14), some (zI s0), none, none, some (zI x26)]) rfl rfl (zpcN rfl)) ?_
    refine zA_ld rfl rfl rfl ?_
    rcases zite_e H with ⟨c27, H⟩ | ⟨c27, H⟩
    · refine zA_brT (c := s0 = 0) rfl rfl rfl c27 ?_
      refine zA_tr (L := [some (zrv x0), some (zrv x1), some (zI x2), some (zI x3), some (zI x4), some (zI x5), some (zI x6), some (zI x7), some (zI x8), some (zI x9), none, some (zI x11), none, none, none, none, none, none, none]) rfl rfl ?_
      refine zA_push rfl rfl zkk7 ?_
      exact zA_tr (L := [some (zrv x0), some (zrv x1), some (zI x2), some (zI x3), some (zI x4), some (zI x5), some (zI x6), some (zI x7), some (zI x8), some (zI x9), none, some (zI x11), none, none, none, none, none, none, none]) rfl rfl (zmS291_492 hk20 _ _ _ _ _ _ _ _ _ _ _ _ _ _ _ H)
    · refine zA_brF (c := s0 = 0) rfl rfl rfl c27 ?_
      refine zA_aldn rfl rfl rfl ?_
      refine zA_ld rfl rfl rfl ?_
      refine zA_ld rfl rfl rfl ?_
      rcases zb_e H with ⟨x29, h28, C, H⟩ | ⟨E, h28, C, H⟩
      · refine zA_callV (as := [zrv x1, zI x14, zI x26]) (st' := []) rfl rfl rfl (zrcv_Q e23 c24) rfl (zmE110 _ _ _) rfl (zmS110 C) ?_
        refine zA_push rfl rfl zkk3 ?_
        rcases zite_e H with ⟨c30, H⟩ | ⟨c30, H⟩
        · refine zA_brF' (c := x29 = (3 : Int32)) rfl rfl rfl c30 ?_
          refine zA_push rfl rfl zkk5 ?_
          refine zA_go rfl rfl ?_
          exact zA_tr (L := [some (zrv x0), some (zrv x1), some (zI x2), some (zI x3), some (zI x4), some (zI x5), some (zI x6), some (zI x7), some (zI x8), some (zI x9), none, some (zI x11), none, none, none, none, none, none, none]) rfl rfl (zmS291_492 hk20 _ _ _ _ _ _ _ _ _ _ _ _ _ _ _ H)
        · refine zA_brT' (c := x29 = (3 : Int32)) rfl rfl rfl c30 ?_
          refine zA_tr (L := [some (zrv x0), some (zrv x1), some (zI x2), some (zI x3), some (zI x4), some (zI x5), some (zI x6), some (zI x7), some (zI x8), some (zI x9), none, some (zI x11), none, none, none, none, none, none, none]) rfl rfl ?_
          refine zA_push rfl rfl zkk7 ?_
          exact zA_tr (L := [some (zrv x0), some (zrv x1), some (zI x2), some (zI x3), some (zI x4), some (zI x5), some (zI x6), some (zI x7), some (zI x8), some (zI x9), none, some (zI x11), none, none, none, none, none, none, none]) rfl rfl (zmS291_492 hk20 _ _ _ _ _ _ _ _ _ _ _ _ _ _ _ H)
      · cases H
        exact zA_callX (as := [zrv x1, zI x14, zI x26]) (st' := []) rfl rfl (zrcv_Q e23 c24) rfl (zmE110 _ _ _) rfl rfl rfl (zmS110 C)
  · cases H
    exact zA_callX (as := [zrv x1, zI x14, zI (3 : Int32)]) (st' := []) rfl rfl (zrcv_Q e23 c24) rfl (zmE110 _ _ _) rfl rfl rfl (zmS110 C)
def zm291_470 (k20 : zq → zq → Int32 → Int32 → Int32 → Int32 → Int32 → Int32 → Int32 → Int32 → zH → zRs Int32) (x0 : zq) (x1 : zq) (x2 : Int32) (x3 : Int32) (x4 : Int32) (x5 : Int32) (x6 : Int32) (x7 : Int32) (x8 : Int32) (x9 : Int32) (x11 : Int32) (x14 : Int32) (s0 : Int32) (s1 : Int32) (s2 : Int32) (h : zH) : zRs Int32 :=
  if s0 = (s1 + s2) then
    zm291_475 k20 x0 x1 x2 x3 x4 x5 x6 x7 x8 x9 x11 x14 (1 : Int32) h
  else
    zm291_475 k20 x0 x1 x2 x3 x4 x5 x6 x7 x8 x9 x11 x14 (0 : Int32) h
theorem zmS291_470 {k20 : zq → zq → Int32 → Int32 → Int32 → Int32 → Int32 → Int32 → Int32 → Int32 → zH → zRs Int32} (hk20 : ∀ (x0 : zq) (x1 : zq) (x2 : Int32) (x3 : Int32) (x4 : Int32) (x5 : Int32) (x6 : Int32) (x7 : Int32) (x8 : Int32) (x9 : Int32) (h : zH) (r : Int32 ⊕ Nat) (h' : zH), k20 x0 x1 x2 x3 x4 x5 x6 x7 x8 x9 h = some (r, h') → zAt 291 20 [some (zrv x0), some (zrv x1), some (zI x2), some (zI x3), some (zI x4), some (zI x5), some (zI x6), some (zI x7), some (zI x8), some (zI x9), none, none, none, none, none, none, none, none, none] [] h (zoI r) h') : ∀ (x0 : zq) (x1 : zq) (x2 : Int32) (x3 : Int32) (x4 : Int32) (x5 : Int32) (x6 : Int32) (x7 : Int32) (x8 : Int32) (x9 : Int32) (x11 : Int32) (x14 : Int32) (s0 : Int32) (s1 : Int32) (s2 : Int32) (h : zH) (r : Int32 ⊕ Nat) (h' : zH), zm291_470 k20 x0 x1 x2 x3 x4 x5 x6 x7 x8 x9 x11 x14 s0 s1 s2 h = some (r, h') → zAt 291 470 [some (zrv x0), some (zrv x1), some (zI x2), some (zI x3), some (zI x4), some (zI x5), some (zI x6), some (zI x7), some (zI x8), some (zI x9), none, some (zI x11), none, none, some (zI x14), none, none, none, none] [zI s2, zI s1, zI s0] h (zoI r) h' := by
  intro x0 x1 x2 x3 x4 x5 x6 x7 x8 x9 x11 x14 s0 s1 s2 h r h' H
  unfold zm291_470 at H
  refine zA_st (st' := [zI (s1 + s2), zI s0]) rfl rfl rfl rfl ?_
  rcases zite_e H with ⟨c21, H⟩ | ⟨c21, H⟩
  · refine zA_brF' (c := s0 = (s1 + s2)) rfl rfl rfl c21 ?_
    refine zA_push rfl rfl zkk5 ?_
    refine zA_go rfl rfl ?_
    exact zA_tr (L := [some (zrv x0), some (zrv x1), some (zI x2), some (zI x3), some (zI x4), some (zI x5), some (zI x6), some (zI x7), some (zI x8), some (zI x9), none, some (zI x11), none, none, some (zI x14), none, none, none, none]) rfl rfl (zmS291_475 hk20 _ _ _ _ _ _ _ _ _ _ _ _ _ _ _ _ H)
  · refine zA_brT' (c := s0 = (s1 + s2)) rfl rfl rfl c21 ?_
    refine zA_push rfl rfl zkk7 ?_
    exact zA_tr (L := [some (zrv x0), some (zrv x1), some (zI x2), some (zI x3), some (zI x4), some (zI x5), some (zI x6), some (zI x7), some (zI x8), some (zI x9), none, some (zI x11), none, none, some (zI x14), none, none, none, none]) rfl rfl (zmS291_475 hk20 _ _ _ _ _ _ _ _ _ _ _ _ _ _ _ _ H)
def zm291_521 (k20 : zq → zq → Int32 → Int32 → Int32 → Int32 → Int32 → Int32 → Int32 → Int32 → zH → zRs Int32) (x0 : zq) (x1 : zq) (x2 : Int32) (x3 : Int32) (x4 : Int32) (x5 : Int32) (x6 : Int32) (x7 : Int32) (x8 : Int32) (x9 : Int32) (x11 : Int32) (x15 : Int32) (s0 : zq) (s1 : Int32) (h : zH) : zRs Int32 :=
  zob 11 s0 fun p21 i22 =>
  zb (zm81 s0 s1 h) fun _ h25 =>
  zm291_594 k20 x0 x1 x2 x3 x4 x5 x6 x7 x8 x9 x11 x15 h25
theorem zmS291_521 {k20 : zq → zq → Int32 → Int32 → Int32 → Int32 → Int32 → Int32 → Int32 → Int32 → zH → zRs Int32} (hk20 : ∀ (x0 : zq) (x1 : zq) (x2 : Int32) (x3 : Int32) (x4 : Int32) (x5 : Int32) (x6 : Int32) (x7 : Int32) (x8 : Int32) (x9 : Int32) (h : zH) (r : Int32 ⊕ Nat) (h' : zH), k20 x0 x1 x2 x3 x4 x5 x6 x7 x8 x9 h = some (r, h') → zAt 291 20 [some (zrv x0), some (zrv x1), some (zI x2), some (zI x3), some (zI x4), some (zI x5), some (zI x6), some (zI x7), some (zI x8), some (zI x9), none, none, none, none, none, none, none, none, none] [] h (zoI r) h') : ∀ (x0 : zq) (x1 : zq) (x2 : Int32) (x3 : Int32) (x4 : Int32) (x5 : Int32) (x6 : Int32) (x7 : Int32) (x8 : Int32) (x9 : Int32) (x11 : Int32) (x15 : Int32) (s0 : zq) (s1 : Int32) (h : zH) (r : Int32 ⊕ Nat) (h' : zH), zm291_521 k20 x0 x1 x2 x3 x4 x5 x6 x7 x8 x9 x11 x15 s0 s1 h = some (r, h') → zAt 291 521 [some (zrv x0), some (zrv x1), some (zI x2), some (zI x3), some (zI x4), some (zI x5), some (zI x6), some (zI x7), some (zI x8), some (zI x9), none, some (zI x11), none, none, none, some (zI x15), none, none, none] [zI s1, zrv s0] h (zoI r) h' := by
  intro x0 x1 x2 x3 x4 x5 x6 x7 x8 x9 x11 x15 s0 s1 h r h' H
  unfold zm291_521 at H
  obtain ⟨p21, i22, e23, c24, H⟩ := zob_e H
  rcases zb_e H with ⟨u26, h25, C, H⟩ | ⟨E, h25, C, H⟩
  · refine zA_callU (as := [zrv s0, zI s1]) (st' := []) rfl rfl rfl (zrcv_Q e23 c24) rfl (zmE81 _ _) rfl (zmS81 C) ?_
    refine zA_go rfl rfl ?_
    exact zA_tr (L := [some (zrv x0), some (zrv x1), some (zI x2), some (zI x3), some (zI x4), some (zI x5), some (zI x6), some (zI x7), some (zI x8), some (zI x9), none, some (zI x11), none, none, none, some (zI x15), none, none, none]) rfl rfl (zmS291_594 hk20 _ _ _ _ _ _ _ _ _ _ _ _ _ _ _ H)
  · cases H
    exact zA_callX (as := [zrv s0, zI s1]) (st' := []) rfl rfl (zrcv_Q e23 c24) rfl (zmE81 _ _) rfl rfl rfl (zmS81 C)
def zm291_509 (k20 : zq → zq → Int32 → Int32 → Int32 → Int32 → Int32 → Int32 → Int32 → Int32 → zH → zRs Int32) (x0 : zq) (x1 : zq) (x2 : Int32) (x3 : Int32) (x4 : Int32) (x5 : Int32) (x6 : Int32) (x7 : Int32) (x8 : Int32) (x9 : Int32) (x11 : Int32) (s0 : Int32) (h : zH) : zRs Int32 :=
  zm291_594 k20 x0 x1 x2 x3 x4 x5 x6 x7 x8 x9 x11 s0 h
theorem zmS291_509 {k20 : zq → zq → Int32 → Int32 → Int32 → Int32 → Int32 → Int32 → Int32 → Int32 → zH → zRs Int32} (hk20 : ∀ (x0 : zq) (x1 : zq) (x2 : Int32) (x3 : Int32) (x4 : Int32) (x5 : Int32) (x6 : Int32) (x7 : Int32) (x8 : Int32) (x9 : Int32) (h : zH) (r : Int32 ⊕ Nat) (h' : zH), k20 x0 x1 x2 x3 x4 x5 x6 x7 x8 x9 h = some (r, h') → zAt 291 20 [some (zrv x0), some (zrv x1), some (zI x2), some (zI x3), some (zI x4), some (zI x5), some (zI x6), some (zI x7), some (zI x8), some (zI x9), none, none, none, none, none, none, none, none, none] [] h (zoI r) h') : ∀ (x0 : zq) (x1 : zq) (x2 : Int32) (x3 : Int32) (x4 : Int32) (x5 : Int32) (x6 : Int32) (x7 : Int32) (x8 : Int32) (x9 : Int32) (x11 : Int32) (s0 : Int32) (h : zH) (r : Int32 ⊕ Nat) (h' : zH), zm291_509 k20 x0 x1 x2 x3 x4 x5 x6 x7 x8 x9 x11 s0 h = some (r, h') → zAt 291 509 [some (zrv x0), some (zrv x1), some (zI x2), some (zI x3), some (zI x4), some (zI x5), some (zI x6), some (zI x7), some (zI x8), some (zI x9), none, some (zI x11), none, none, none, none, none, none, none] [zI s0] h (zoI r) h' := by
  intro x0 x1 x2 x3 x4 x5 x6 x7 x8 x9 x11 s0 h r h' H
  unfold zm291_509 at H
  refine zA_ist2 rfl rfl rfl (zset1 (L' := [some (zrv x0), some (zrv x1), some (zI x2), some (zI x3), some (zI x4), some (zI x5), some (zI x6), some (zI x7), some (zI x8), some (zI x9), none, some (zI x11), none, none, none, some (zI s0), none, none, none]) rfl rfl (zpcN rfl)) ?_
  refine zA_go rfl rfl ?_
  exact zA_tr (L := [some (zrv x0), some (zrv x1), some (zI x2), some (zI x3), some (zI x4), some (zI x5), some (zI x6), some (zI x7), some (zI x8), some (zI x9), none, some (zI x11), none, none, none, some (zI s0), none, none, none]) rfl rfl (zmS291_594 hk20 _ _ _ _ _ _ _ _ _ _ _ _ _ _ _ H)
def zm291_558 (k20 : zq → zq → Int32 → Int32 → Int32 → Int32 → Int32 → Int32 → Int32 → Int32 → zH → zRs Int32) (x0 : zq) (x1 : zq) (x2 : Int32) (x3 : Int32) (x4 : Int32) (x5 : Int32) (x6 : Int32) (x7 : Int32) (x8 : Int32) (x9 : Int32) (x11 : Int32) (s0 : Int32) (h : zH) : zRs Int32 :=
  zm291_594 k20 x0 x1 x2 x3 x4 x5 x6 x7 x8 x9 x11 s0 h
theorem zmS291_558 {k20 : zq → zq → Int32 → Int32 → Int32 → Int32 → Int32 → Int32 → Int32 → Int32 → zH → zRs Int32} (hk20 : ∀ (x0 : zq) (x1 : zq) (x2 : Int32) (x3 : Int32) (x4 : Int32) (x5 : Int32) (x6 : Int32) (x7 : Int32) (x8 : Int32) (x9 : Int32) (h : zH) (r : Int32 ⊕ Nat) (h' : zH), k20 x0 x1 x2 x3 x4 x5 x6 x7 x8 x9 h = some (r, h') → zAt 291 20 [some (zrv x0), some (zrv x1), some (zI x2), some (zI x3), some (zI x4), some (zI x5), some (zI x6), some (zI x7), some (zI x8), some (zI x9), none, none, none, none, none, none, none, none, none] [] h (zoI r) h') : ∀ (x0 : zq) (x1 : zq) (x2 : Int32) (x3 : Int32) (x4 : Int32) (x5 : Int32) (x6 : Int32) (x7 : Int32) (x8 : Int32) (x9 : Int32) (x11 : Int32) (s0 : Int32) (h : zH) (r : Int32 ⊕ Nat) (h' : zH), zm291_558 k20 x0 x1 x2 x3 x4 x5 x6 x7 x8 x9 x11 s0 h = some (r, h') → zAt 291 558 [some (zrv x0), some (zrv x1), some (zI x2), some (zI x3), some (zI x4), some (zI x5), some (zI x6), some (zI x7), some (zI x8), some (zI x9), none, some (zI x11), none, none, none, none, none, none, none] [zI s0] h (zoI r) h' := by
  intro x0 x1 x2 x3 x4 x5 x6 x7 x8 x9 x11 s0 h r h' H
  unfold zm291_558 at H
  refine zA_ist2 rfl rfl rfl (zset1 (L' := [some (zrv x0), some (zrv x1), some (zI x2), some (zI x3), some (zI x4), some (zI x5), some (zI x6), some (zI x7), some (zI x8), some (zI x9), none, some (zI x11), none, none, none, some (zI s0), none, none, none]) rfl rfl (zpcN rfl)) ?_
  refine zA_go rfl rfl ?_
  exact zA_tr (L := [some (zrv x0), some (zrv x1), some (zI x2), some (zI x3), some (zI x4), some (zI x5), some (zI x6), some (zI x7), some (zI x8), some (zI x9), none, some (zI x11), none, none, none, some (zI s0), none, none, none]) rfl rfl (zmS291_594 hk20 _ _ _ _ _ _ _ _ _ _ _ _ _ _ _ H)
def zm291_552 (k20 : zq → zq → Int32 → Int32 → Int32 → Int32 → Int32 → Int32 → Int32 → Int32 → zH → zRs Int32) (x0 : zq) (x1 : zq) (x2 : Int32) (x3 : Int32) (x4 : Int32) (x5 : Int32) (x6 : Int32) (x7 : Int32) (x8 : Int32) (x9 : Int32) (x11 : Int32) (s0 : Int32) (h : zH) : zRs Int32 :=
  zob 11 x1 fun p21 i22 =>
  zb (zm83 x1 h) fun x26 h25 =>
  if s0 = x26 then
    zm291_558 k20 x0 x1 x2 x3 x4 x5 x6 x7 x8 x9 x11 (1 : Int32) h25
  else
    zm291_558 k20 x0 x1 x2 x3 x4 x5 x6 x7 x8 x9 x11 (0 : Int32) h25
theorem zmS291_552 {k20 : zq → zq → Int32 → Int32 → Int32 → Int32 → Int32 → Int32 → Int32 → Int32 → zH → zRs Int32} (hk20 : ∀ (x0 : zq) (x1 : zq) (x2 : Int32) (x3 : Int32) (x4 : Int32) (x5 : Int32) (x6 : Int32) (x7 : Int32) (x8 : Int32) (x9 : Int32) (h : zH) (r : Int32 ⊕ Nat) (h' : zH), k20 x0 x1 x2 x3 x4 x5 x6 x7 x8 x9 h = some (r, h') → zAt 291 20 [some (zrv x0), some (zrv x1), some (zI x2), some (zI x3), some (zI x4), some (zI x5), some (zI x6), some (zI x7), some (zI x8), some (zI x9), none, none, none, none, none, none, none, none, none] [] h (zoI r) h') : ∀ (x0 : zq) (x1 : zq) (x2 : Int32) (x3 : Int32) (x4 : Int32) (x5 : Int32) (x6 : Int32) (x7 : Int32) (x8 : Int32) (x9 : Int32) (x11 : Int32) (s0 : Int32) (h : zH) (r : Int32 ⊕ Nat) (h' : zH), zm291_552 k20 x0 x1 x2 x3 x4 x5 x6 x7 x8 x9 x11 s0 h = some (r, h') → zAt 291 552 [some (zrv x0), some (zrv x1), some (zI x2), some (zI x3), some (zI x4), some (zI x5), some (zI x6), some (zI x7), some (zI x8), some (zI x9), none, some (zI x11), none, none, none, none, none, none, none] [zI s0] h (zoI r) h' := by
  intro x0 x1 x2 x3 x4 x5 x6 x7 x8 x9 x11 s0 h r h' H
  unfold zm291_552 at H
  refine zA_aldn rfl rfl rfl ?_
  obtain ⟨p21, i22, e23, c24, H⟩ := zob_e H
  rcases zb_e H with ⟨x26, h25, C, H⟩ | ⟨E, h25, C, H⟩
  · refine zA_callV (as := [zrv x1]) (st' := [zI s0]) rfl rfl rfl (zrcv_Q e23 c24) rfl (zmE83 _) rfl (zmS83 C) ?_
    rcases zite_e H with ⟨c27, H⟩ | ⟨c27, H⟩
    · refine zA_brF' (c := s0 = x26) rfl rfl rfl c27 ?_
      refine zA_push rfl rfl zkk5 ?_
      refine zA_go rfl rfl ?_
      exact zA_tr (L := [some (zrv x0), some (zrv x1), some (zI x2), some (zI x3), some (zI x4), some (zI x5), some (zI x6), some (zI x7), some (zI x8), some (zI x9), none, some (zI x11), none, none, none, none, none, none, none]) rfl rfl (zmS291_558 hk20 _ _ _ _ _ _ _ _ _ _ _ _ _ _ _ H)
    · refine zA_brT' (c := s0 = x26) rfl rfl rfl c27 ?_
      refine zA_push rfl rfl zkk7 ?_
      exact zA_tr (L := [some (zrv x0), some (zrv x1), some (zI x2), some (zI x3), some (zI x4), some (zI x5), some (zI x6), some (zI x7), some (zI x8), some (zI x9), none, some (zI x11), none, none, none, none, none, none, none]) rfl rfl (zmS291_558 hk20 _ _ _ _ _ _ _ _ _ _ _ _ _ _ _ H)
  · cases H
    exact zA_callX (as := [zrv x1]) (st' := [zI s0]) rfl rfl (zrcv_Q e23 c24) rfl (zmE83 _) rfl rfl rfl (zmS83 C)
def zm291_564 (k576 : zq → zq → Int32 → Int32 → Int32 → Int32 → Int32 → Int32 → Int32 → Int32 → Int32 → Int32 → Int32 → zH → zRs Int32) : Nat → zq → zq → Int32 → Int32 → Int32 → Int32 → Int32 → Int32 → Int32 → Int32 → Int32 → Int32 → Int32 → Int32 → zH → zRs Int32
  | 0, _, _, _, _, _, _, _, _, _, _, _, _, _, _, _ => none
  | n + 1, x0, x1, x2, x3, x4, x5, x6, x7, x8, x9, x11, x14, x16, x17, h =>
    if x2 ≤ x17 then
      k576 x0 x1 x2 x3 x4 x5 x6 x7 x8 x9 x11 x14 x16 h
    else
      zob 11 x1 fun p22 i23 =>
      zb (zm90 x1 x17 x14 h) fun x27 h26 =>
      zlet (x16 + x27) fun x28 =>
      zlet (x17 + (1 : Int32)) fun x30 =>
      zm291_564 k576 n x0 x1 x2 x3 x4 x5 x6 x7 x8 x9 x11 x14 x28 x30 h26
theorem zmS291_564 {k576 : zq → zq → Int32 → Int32 → Int32 → Int32 → Int32 → Int32 → Int32 → Int32 → Int32 → Int32 → Int32 → zH → zRs Int32} (hk576 : ∀ (x0 : zq) (x1 : zq) (x2 : Int32) (x3 : Int32) (x4 : Int32) (x5 : Int32) (x6 : Int32) (x7 : Int32) (x8 : Int32) (x9 : Int32) (x11 : Int32) (x14 : Int32) (x16 : Int32) (h : zH) (r : Int32 ⊕ Nat) (h' : zH), k576 x0 x1 x2 x3 x4 x5 x6 x7 x8 x9 x11 x14 x16 h = some (r, h') → zAt 291 576 [some (zrv x0), some (zrv x1), some (zI x2), some (zI x3), some (zI x4), some (zI x5), some (zI x6), some (zI x7), some (zI x8), some (zI x9), none, some (zI x11), none, none, some (zI x14), none, some (zI x16), none, none] [] h (zoI r) h') : ∀ (n : Nat) (x0 : zq) (x1 : zq) (x2 : Int32) (x3 : Int32) (x4 : Int32) (x5 : Int32) (x6 : Int32) (x7 : Int32) (x8 : Int32) (x9 : Int32) (x11 : Int32) (x14 : Int32) (x16 : Int32) (x17 : Int32) (h : zH) (r : Int32 ⊕ Nat) (h' : zH), zm291_564 k576 n x0 x1 x2 x3 x4 x5 x6 x7 x8 x9 x11 x14 x16 x17 h = some (r, h') → zAt 291 564 [some (zrv x0), some (zrv x1), some (zI x2), some (zI x3), some (zI x4), some (zI x5), some (zI x6), some (zI x7), some (zI x8), some (zI x9), none, some (zI x11), none, none, some (zI x14), none, some (zI x16), some (zI x17), none] [] h (zoI r) h' := by
  intro n
  induction n with
  | zero => intro x0 x1 x2 x3 x4 x5 x6 x7 x8 x9 x11 x14 x16 x17 h r h' H; cases H
  | succ n ih =>
    intro x0 x1 x2 x3 x4 x5 x6 x7 x8 x9 x11 x14 x16 x17 h r h' H
    unfold zm291_564 at H
    refine zA_ld rfl rfl rfl ?_
    refine zA_ldn rfl rfl rfl ?_
    rcases zite_e H with ⟨c21, H⟩ | ⟨c21, H⟩
    · refine zA_brT (c := x2 ≤ x17) rfl rfl rfl c21 ?_
      exact zA_tr (L := [some (zrv x0), some (zrv x1), some (zI x2), some (zI x3), some (zI x4), some (zI x5), some (zI x6), some (zI x7), some (zI x8), some (zI x9), none, some (zI x11), none, none, some (zI x14), none, some (zI x16), none, none]) rfl rfl (hk576 _ _ _ _ _ _ _ _ _ _ _ _ _ _ _ _ H)
    · refine zA_brF (c := x2 ≤ x17) rfl rfl rfl c21 ?_
      refine zA_ld rfl rfl rfl ?_
      refine zA_aldn rfl rfl rfl ?_
      refine zA_ld rfl rfl rfl ?_
      refine zA_ld rfl rfl rfl ?_
      obtain ⟨p22, i23, e24, c25, H⟩ := zob_e H
      rcases zb_e H with ⟨x27, h26, C, H⟩ | ⟨E, h26, C, H⟩
      · refine zA_callV (as := [zrv x1, zI x17, zI x14]) (st' := [zI x16]) rfl rfl rfl (zrcv_Q e24 c25) rfl (zmE90 _ _ _) rfl (zmS90 C) ?_
        refine zA_st (st' := [zI (x16 + x27)]) rfl rfl rfl rfl ?_
        obtain ⟨x28, e29, H⟩ := zlet_e H
        refine zA_ist2 rfl rfl e29 (zset1 (L' := [some (zrv x0), some (zrv x1), some (zI x2), some (zI x3), some (zI x4), some (zI x5), some (zI x6), some (zI x7), some (zI x8), some (zI x9), none, some (zI x11), none, none, some (zI x14), none, some (zI x28), some (zI x17), none]) rfl rfl (zpcN rfl)) ?_
        obtain ⟨x30, e31, H⟩ := zlet_e H
        refine zA_inc rfl rfl rfl (e31.trans (congrArg (_ + ·) zkk8)) (zset1 (L' := [some (zrv x0), some (zrv x1), some (zI x2), some (zI x3), some (zI x4), some (zI x5), some (zI x6), some (zI x7), some (zI x8), some (zI x9), none, some (zI x11), none, none, some (zI x14), none, some (zI x28), some (zI x30), none]) rfl rfl (zpcV rfl rfl)) ?_
        refine zA_go rfl rfl ?_
        exact zA_tr (L := [some (zrv x0), some (zrv x1), some (zI x2), some (zI x3), some (zI x4), some (zI x5), some (zI x6), some (zI x7), some (zI x8), some (zI x9), none, some (zI x11), none, none, some (zI x14), none, some (zI x28), some (zI x30), none]) rfl rfl (ih _ _ _ _ _ _ _ _ _ _ _ _ _ _ _ _ _ H)
      · cases H
        exact zA_callX (as := [zrv x1, zI x17, zI x14]) (st' := [zI x16]) rfl rfl (zrcv_Q e24 c25) rfl (zmE90 _ _ _) rfl rfl rfl (zmS90 C)
def zm291_593 (k20 : zq → zq → Int32 → Int32 → Int32 → Int32 → Int32 → Int32 → Int32 → Int32 → zH → zRs Int32) (x0 : zq) (x1 : zq) (x2 : Int32) (x3 : Int32) (x4 : Int32) (x5 : Int32) (x6 : Int32) (x7 : Int32) (x8 : Int32) (x9 : Int32) (x11 : Int32) (s0 : Int32) (h : zH) : zRs Int32 :=
  zm291_594 k20 x0 x1 x2 x3 x4 x5 x6 x7 x8 x9 x11 s0 h
theorem zmS291_593 {k20 : zq → zq → Int32 → Int32 → Int32 → Int32 → Int32 → Int32 → Int32 → Int32 → zH → zRs Int32} (hk20 : ∀ (x0 : zq) (x1 : zq) (x2 : Int32) (x3 : Int32) (x4 : Int32) (x5 : Int32) (x6 : Int32) (x7 : Int32) (x8 : Int32) (x9 : Int32) (h : zH) (r : Int32 ⊕ Nat) (h' : zH), k20 x0 x1 x2 x3 x4 x5 x6 x7 x8 x9 h = some (r, h') → zAt 291 20 [some (zrv x0), some (zrv x1), some (zI x2), some (zI x3), some (zI x4), some (zI x5), some (zI x6), some (zI x7), some (zI x8), some (zI x9), none, none, none, none, none, none, none, none, none] [] h (zoI r) h') : ∀ (x0 : zq) (x1 : zq) (x2 : Int32) (x3 : Int32) (x4 : Int32) (x5 : Int32) (x6 : Int32) (x7 : Int32) (x8 : Int32) (x9 : Int32) (x11 : Int32) (s0 : Int32) (h : zH) (r : Int32 ⊕ Nat) (h' : zH), zm291_593 k20 x0 x1 x2 x3 x4 x5 x6 x7 x8 x9 x11 s0 h = some (r, h') → zAt 291 593 [some (zrv x0), some (zrv x1), some (zI x2), some (zI x3), some (zI x4), some (zI x5), some (zI x6), some (zI x7), some (zI x8), some (zI x9), none, some (zI x11), none, none, none, none, none, none, none] [zI s0] h (zoI r) h' := by
  intro x0 x1 x2 x3 x4 x5 x6 x7 x8 x9 x11 s0 h r h' H
  unfold zm291_593 at H
  refine zA_ist2 rfl rfl rfl (zset1 (L' := [some (zrv x0), some (zrv x1), some (zI x2), some (zI x3), some (zI x4), some (zI x5), some (zI x6), some (zI x7), some (zI x8), some (zI x9), none, some (zI x11), none, none, none, some (zI s0), none, none, none]) rfl rfl (zpcN rfl)) ?_
  exact zA_tr (L := [some (zrv x0), some (zrv x1), some (zI x2), some (zI x3), some (zI x4), some (zI x5), some (zI x6), some (zI x7), some (zI x8), some (zI x9), none, some (zI x11), none, none, none, some (zI s0), none, none, none]) rfl rfl (zmS291_594 hk20 _ _ _ _ _ _ _ _ _ _ _ _ _ _ _ H)
def zm291_587 (k20 : zq → zq → Int32 → Int32 → Int32 → Int32 → Int32 → Int32 → Int32 → Int32 → zH → zRs Int32) (x0 : zq) (x1 : zq) (x2 : Int32) (x3 : Int32) (x4 : Int32) (x5 : Int32) (x6 : Int32) (x7 : Int32) (x8 : Int32) (x9 : Int32) (x11 : Int32) (s0 : Int32) (s1 : Int32) (h : zH) : zRs Int32 :=
  if (s1 * (2 : Int32)) < s0 then
    zm291_593 k20 x0 x1 x2 x3 x4 x5 x6 x7 x8 x9 x11 (0 : Int32) h
  else
    zm291_593 k20 x0 x1 x2 x3 x4 x5 x6 x7 x8 x9 x11 (1 : Int32) h
theorem zmS291_587 {k20 : zq → zq → Int32 → Int32 → Int32 → Int32 → Int32 → Int32 → Int32 → Int32 → zH → zRs Int32} (hk20 : ∀ (x0 : zq) (x1 : zq) (x2 : Int32) (x3 : Int32) (x4 : Int32) (x5 : Int32) (x6 : Int32) (x7 : Int32) (x8 : Int32) (x9 : Int32) (h : zH) (r : Int32 ⊕ Nat) (h' : zH), k20 x0 x1 x2 x3 x4 x5 x6 x7 x8 x9 h = some (r, h') → zAt 291 20 [some (zrv x0), some (zrv x1), some (zI x2), some (zI x3), some (zI x4), some (zI x5), some (zI x6), some (zI x7), some (zI x8), some (zI x9), none, none, none, none, none, none, none, none, none] [] h (zoI r) h') : ∀ (x0 : zq) (x1 : zq) (x2 : Int32) (x3 : Int32) (x4 : Int32) (x5 : Int32) (x6 : Int32) (x7 : Int32) (x8 : Int32) (x9 : Int32) (x11 : Int32) (s0 : Int32) (s1 : Int32) (h : zH) (r : Int32 ⊕ Nat) (h' : zH), zm291_587 k20 x0 x1 x2 x3 x4 x5 x6 x7 x8 x9 x11 s0 s1 h = some (r, h') → zAt 291 587 [some (zrv x0), some (zrv x1), some (zI x2), some (zI x3), some (zI x4), some (zI x5), some (zI x6), some (zI x7), some (zI x8), some (zI x9), none, some (zI x11), none, none, none, none, none, none, none] [zI s1, zI s0] h (zoI r) h' := by
  intro x0 x1 x2 x3 x4 x5 x6 x7 x8 x9 x11 s0 s1 h r h' H
  unfold zm291_587 at H
  refine zA_push rfl rfl zkk15 ?_
  refine zA_st (st' := [zI (s1 * (2 : Int32)), zI s0]) rfl rfl rfl rfl ?_
  rcases zite_e H with ⟨c21, H⟩ | ⟨c21, H⟩
  · refine zA_brT (c := (s1 * (2 : Int32)) < s0) rfl rfl rfl c21 ?_
    refine zA_push rfl rfl zkk7 ?_
    exact zA_tr (L := [some (zrv x0), some (zrv x1), some (zI x2), some (zI x3), some (zI x4), some (zI x5), some (zI x6), some (zI x7), some (zI x8), some (zI x9), none, some (zI x11), none, none, none, none, none, none, none]) rfl rfl (zmS291_593 hk20 _ _ _ _ _ _ _ _ _ _ _ _ _ _ _ H)
  · refine zA_brF (c := (s1 * (2 : Int32)) < s0) rfl rfl rfl c21 ?_
    refine zA_push rfl rfl zkk5 ?_
    refine zA_go rfl rfl ?_
    exact zA_tr (L := [some (zrv x0), some (zrv x1), some (zI x2), some (zI x3), some (zI x4), some (zI x5), some (zI x6), some (zI x7), some (zI x8), some (zI x9), none, some (zI x11), none, none, none, none, none, none, none]) rfl rfl (zmS291_593 hk20 _ _ _ _ _ _ _ _ _ _ _ _ _ _ _ H)
def zm291_576 (k20 : zq → zq → Int32 → Int32 → Int32 → Int32 → Int32 → Int32 → Int32 → Int32 → zH → zRs Int32) (x0 : zq) (x1 : zq) (x2 : Int32) (x3 : Int32) (x4 : Int32) (x5 : Int32) (x6 : Int32) (x7 : Int32) (x8 : Int32) (x9 : Int32) (x11 : Int32) (x14 : Int32) (x16 : Int32) (h : zH) : zRs Int32 :=
  if x14 = 0 then
    zm291_587 k20 x0 x1 x2 x3 x4 x5 x6 x7 x8 x9 x11 x16 (40 : Int32) h
  else
    if x14 = (1 : Int32) then
      zm291_587 k20 x0 x1 x2 x3 x4 x5 x6 x7 x8 x9 x11 x16 (120 : Int32) h
    else
      zm291_587 k20 x0 x1 x2 x3 x4 x5 x6 x7 x8 x9 x11 x16 (240 : Int32) h
theorem zmS291_576 {k20 : zq → zq → Int32 → Int32 → Int32 → Int32 → Int32 → Int32 → Int32 → Int32 → zH → zRs Int32} (hk20 : ∀ (x0 : zq) (x1 : zq) (x2 : Int32) (x3 : Int32) (x4 : Int32) (x5 : Int32) (x6 : Int32) (x7 : Int32) (x8 : Int32) (x9 : Int32) (h : zH) (r : Int32 ⊕ Nat) (h' : zH), k20 x0 x1 x2 x3 x4 x5 x6 x7 x8 x9 h = some (r, h') → zAt 291 20 [some (zrv x0), some (zrv x1), some (zI x2), some (zI x3), some (zI x4), some (zI x5), some (zI x6), some (zI x7), some (zI x8), some (zI x9), none, none, none, none, none, none, none, none, none] [] h (zoI r) h') : ∀ (x0 : zq) (x1 : zq) (x2 : Int32) (x3 : Int32) (x4 : Int32) (x5 : Int32) (x6 : Int32) (x7 : Int32) (x8 : Int32) (x9 : Int32) (x11 : Int32) (x14 : Int32) (x16 : Int32) (h : zH) (r : Int32 ⊕ Nat) (h' : zH), zm291_576 k20 x0 x1 x2 x3 x4 x5 x6 x7 x8 x9 x11 x14 x16 h = some (r, h') → zAt 291 576 [some (zrv x0), some (zrv x1), some (zI x2), some (zI x3), some (zI x4), some (zI x5), some (zI x6), some (zI x7), some (zI x8), some (zI x9), none, some (zI x11), none, none, some (zI x14), none, some (zI x16), none, none] [] h (zoI r) h' := by
  intro x0 x1 x2 x3 x4 x5 x6 x7 x8 x9 x11 x14 x16 h r h' H
  unfold zm291_576 at H
  refine zA_ld rfl rfl rfl ?_
  refine zA_ld rfl rfl rfl ?_
  rcases zite_e H with ⟨c21, H⟩ | ⟨c21, H⟩
  · refine zA_brF' (c := x14 = 0) rfl rfl rfl c21 ?_
    refine zA_push rfl rfl zkk39 ?_
    refine zA_go rfl rfl ?_
    exact zA_tr (L := [some (zrv x0), some (zrv x1), some (zI x2), some (zI x3), some (zI x4), some (zI x5), some (zI x6), some (zI x7), some (zI x8), some (zI x9), none, some (zI x11), none, none, none, none, none, none, none]) rfl rfl (zmS291_587 hk20 _ _ _ _ _ _ _ _ _ _ _ _ _ _ _ _ H)
  · refine zA_brT' (c := x14 = 0) rfl rfl rfl c21 ?_
    refine zA_tr (L := [some (zrv x0), some (zrv x1), some (zI x2), some (zI x3), some (zI x4), some (zI x5), some (zI x6), some (zI x7), some (zI x8), some (zI x9), none, some (zI x11), none, none, some (zI x14), none, none, none, none]) rfl rfl ?_
    refine zA_ld rfl rfl rfl ?_
    refine zA_push rfl rfl zkk5 ?_
    rcases zite_e H with ⟨c22, H⟩ | ⟨c22, H⟩
    · refine zA_brF' (c := x14 = (1 : Int32)) rfl rfl rfl c22 ?_
      refine zA_push rfl rfl zkk51 ?_
      refine zA_go rfl rfl ?_
      exact zA_tr (L := [some (zrv x0), some (zrv x1), some (zI x2), some (zI x3), some (zI x4), some (zI x5), some (zI x6), some (zI x7), some (zI x8), some (zI x9), none, some (zI x11), none, none, none, none, none, none, none]) rfl rfl (zmS291_587 hk20 _ _ _ _ _ _ _ _ _ _ _ _ _ _ _ _ H)
    · refine zA_brT' (c := x14 = (1 : Int32)) rfl rfl rfl c22 ?_
      refine zA_tr (L := [some (zrv x0), some (zrv x1), some (zI x2), some (zI x3), some (zI x4), some (zI x5), some (zI x6), some (zI x7), some (zI x8), some (zI x9), none, some (zI x11), none, none, none, none, none, none, none]) rfl rfl ?_
      refine zA_push rfl rfl zkk52 ?_
      exact zA_tr (L := [some (zrv x0), some (zrv x1), some (zI x2), some (zI x3), some (zI x4), some (zI x5), some (zI x6), some (zI x7), some (zI x8), some (zI x9), none, some (zI x11), none, none, none, none, none, none, none]) rfl rfl (zmS291_587 hk20 _ _ _ _ _ _ _ _ _ _ _ _ _ _ _ _ H)
def zm291_241 (k20 : zq → zq → Int32 → Int32 → Int32 → Int32 → Int32 → Int32 → Int32 → Int32 → zH → zRs Int32) (x0 : zq) (x1 : zq) (x2 : Int32) (x3 : Int32) (x4 : Int32) (x5 : Int32) (x6 : Int32) (x7 : Int32) (x8 : Int32) (x9 : Int32) (x11 : Int32) (s0 : Int32) (h : zH) : zRs Int32 :=
  zlet (x3 + (1 : Int32)) fun x21 =>
  zm291_594 k20 x0 x1 x2 x21 x4 x5 x6 x7 x8 x9 x11 s0 h
theorem zmS291_241 {k20 : zq → zq → Int32 → Int32 → Int32 → Int32 → Int32 → Int32 → Int32 → Int32 → zH → zRs Int32} (hk20 : ∀ (x0 : zq) (x1 : zq) (x2 : Int32) (x3 : Int32) (x4 : Int32) (x5 : Int32) (x6 : Int32) (x7 : Int32) (x8 : Int32) (x9 : Int32) (h : zH) (r : Int32 ⊕ Nat) (h' : zH), k20 x0 x1 x2 x3 x4 x5 x6 x7 x8 x9 h = some (r, h') → zAt 291 20 [some (zrv x0), some (zrv x1), some (zI x2), some (zI x3), some (zI x4), some (zI x5), some (zI x6), some (zI x7), some (zI x8), some (zI x9), none, none, none, none, none, none, none, none, none] [] h (zoI r) h') : ∀ (x0 : zq) (x1 : zq) (x2 : Int32) (x3 : Int32) (x4 : Int32) (x5 : Int32) (x6 : Int32) (x7 : Int32) (x8 : Int32) (x9 : Int32) (x11 : Int32) (s0 : Int32) (h : zH) (r : Int32 ⊕ Nat) (h' : zH), zm291_241 k20 x0 x1 x2 x3 x4 x5 x6 x7 x8 x9 x11 s0 h = some (r, h') → zAt 291 241 [some (zrv x0), some (zrv x1), some (zI x2), some (zI x3), some (zI x4), some (zI x5), some (zI x6), some (zI x7), some (zI x8), some (zI x9), none, some (zI x11), none, none, none, none, none, none, none] [zI s0] h (zoI r) h' := by
  intro x0 x1 x2 x3 x4 x5 x6 x7 x8 x9 x11 s0 h r h' H
  unfold zm291_241 at H
  refine zA_ist2 rfl rfl rfl (zset1 (L' := [some (zrv x0), some (zrv x1), some (zI x2), some (zI x3), some (zI x4), some (zI x5), some (zI x6), some (zI x7), some (zI x8), some (zI x9), none, some (zI x11), none, none, none, some (zI s0), none, none, none]) rfl rfl (zpcN rfl)) ?_
  obtain ⟨x21, e22, H⟩ := zlet_e H
  refine zA_inc rfl rfl rfl (e22.trans (congrArg (_ + ·) zkk8)) (zset1 (L' := [some (zrv x0), some (zrv x1), some (zI x2), some (zI x21), some (zI x4), some (zI x5), some (zI x6), some (zI x7), some (zI x8), some (zI x9), none, some (zI x11), none, none, none, some (zI s0), none, none, none]) rfl rfl (zpcV rfl rfl)) ?_
  refine zA_go rfl rfl ?_
  exact zA_tr (L := [some (zrv x0), some (zrv x1), some (zI x2), some (zI x21), some (zI x4), some (zI x5), some (zI x6), some (zI x7), some (zI x8), some (zI x9), none, some (zI x11), none, none, none, some (zI s0), none, none, none]) rfl rfl (zmS291_594 hk20 _ _ _ _ _ _ _ _ _ _ _ _ _ _ _ H)
def zm291_102 (k67 : zq → zq → Int32 → Int32 → Int32 → Int32 → Int32 → Int32 → Int32 → Int32 → Int32 → Int32 → Int32 → Int32 → Int32 → zH → zRs Int32) (x0 : zq) (x1 : zq) (x2 : Int32) (x3 : Int32) (x4 : Int32) (x5 : Int32) (x6 : Int32) (x7 : Int32) (x8 : Int32) (x9 : Int32) (x10 : Int32) (x11 : Int32) (x15 : Int32) (x16 : Int32) (x17 : Int32) (s0 : zq) (s1 : Int32) (s2 : Int32) (s3 : Int32) (h : zH) : zRs Int32 :=
  zb (zm242 (x10 >>> (((3 : Int32) * x17) &&& 31)) (100 : Int32) h) fun x22 h21 =>
  zob 11 s0 fun p23 i24 =>
  zb (zm50 s0 s1 s2 s3 ((1 : Int32) + x22) h21) fun x28 h27 =>
  zlet (x17 + (1 : Int32)) fun x29 =>
  k67 x0 x1 x2 x3 x4 x5 x6 x7 x8 x9 x10 x11 x15 x16 x29 h27
theorem zmS291_102 {k67 : zq → zq → Int32 → Int32 → Int32 → Int32 → Int32 → Int32 → Int32 → Int32 → Int32 → Int32 → Int32 → Int32 → Int32 → zH → zRs Int32} (hk67 : ∀ (x0 : zq) (x1 : zq) (x2 : Int32) (x3 : Int32) (x4 : Int32) (x5 : Int32) (x6 : Int32) (x7 : Int32) (x8 : Int32) (x9 : Int32) (x10 : Int32) (x11 : Int32) (x15 : Int32) (x16 : Int32) (x17 : Int32) (h : zH) (r : Int32 ⊕ Nat) (h' : zH), k67 x0 x1 x2 x3 x4 x5 x6 x7 x8 x9 x10 x11 x15 x16 x17 h = some (r, h') → zAt 291 67 [some (zrv x0), some (zrv x1), some (zI x2), some (zI x3), some (zI x4), some (zI x5), some (zI x6), some (zI x7), some (zI x8), some (zI x9), some (zI x10), some (zI x11), none, none, none, some (zI x15), some (zI x16), some (zI x17), none] [] h (zoI r) h') : ∀ (x0 : zq) (x1 : zq) (x2 : Int32) (x3 : Int32) (x4 : Int32) (x5 : Int32) (x6 : Int32) (x7 : Int32) (x8 : Int32) (x9 : Int32) (x10 : Int32) (x11 : Int32) (x15 : Int32) (x16 : Int32) (x17 : Int32) (s0 : zq) (s1 : Int32) (s2 : Int32) (s3 : Int32) (h : zH) (r : Int32 ⊕ Nat) (h' : zH), zm291_102 k67 x0 x1 x2 x3 x4 x5 x6 x7 x8 x9 x10 x11 x15 x16 x17 s0 s1 s2 s3 h = some (r, h') → zAt 291 102 [some (zrv x0), some (zrv x1), some (zI x2), some (zI x3), some (zI x4), some (zI x5), some (zI x6), some (zI x7), some (zI x8), some (zI x9), some (zI x10), some (zI x11), none, none, none, some (zI x15), some (zI x16), some (zI x17), none] [zI s3, zI s2, zI s1, zrv s0] h (zoI r) h' := by
  intro x0 x1 x2 x3 x4 x5 x6 x7 x8 x9 x10 x11 x15 x16 x17 s0 s1 s2 s3 h r h' H
  unfold zm291_102 at H
  refine zA_push rfl rfl zkk5 ?_
  refine zA_ld rfl rfl rfl ?_
  refine zA_push rfl rfl zkk3 ?_
  refine zA_ld rfl rfl rfl ?_
  refine zA_st (st' := [zI ((3 : Int32) * x17), zI x10, zI (1 : Int32), zI s3, zI s2, zI s1, zrv s0]) rfl rfl rfl rfl ?_
  refine zA_st (st' := [zI (x10 >>> (((3 : Int32) * x17) &&& 31)), zI (1 : Int32), zI s3, zI s2, zI s1, zrv s0]) rfl rfl rfl rfl ?_
  refine zA_push rfl rfl zkk18 ?_
  rcases zb_e H with ⟨x22, h21, C, H⟩ | ⟨E, h21, C, H⟩
  · refine zA_callV (as := [zI (x10 >>> (((3 : Int32) * x17) &&& 31)), zI (100 : Int32)]) (st' := [zI (1 : Int32), zI s3, zI s2, zI s1, zrv s0]) rfl rfl rfl rfl (zsk4_w (by simp only [zsw, zcat_rv, show ∀ x : Int32, zcat (zI x) = 1 from fun _ => rfl]; decide)) (zmE242 _ _) rfl (zmS242 C) ?_
    refine zA_st (st' := [zI ((1 : Int32) + x22), zI s3, zI s2, zI s1, zrv s0]) rfl rfl rfl rfl ?_
    obtain ⟨p23, i24, e25, c26, H⟩ := zob_e H
    rcases zb_e H with ⟨x28, h27, C, H⟩ | ⟨E, h27, C, H⟩
    · refine zA_callV (as := [zrv s0, zI s1, zI s2, zI s3, zI ((1 : Int32) + x22)]) (st' := []) rfl rfl rfl (zrcv_Q e25 c26) rfl (zmE50 _ _ _ _ _) rfl (zmS50 C) ?_
      refine zA_pop rfl rfl rfl ?_
      obtain ⟨x29, e30, H⟩ := zlet_e H
      refine zA_inc rfl rfl rfl (e30.trans (congrArg (_ + ·) zkk8)) (zset1 (L' := [some (zrv x0), some (zrv x1), some (zI x2), some (zI x3), some (zI x4), some (zI x5), some (zI x6), some (zI x7), some (zI x8), some (zI x9), some (zI x10), some (zI x11), none, none, none, some (zI x15), some (zI x16), some (zI x29), none]) rfl rfl (zpcV rfl rfl)) ?_
      refine zA_go rfl rfl ?_
      exact zA_tr (L := [some (zrv x0), some (zrv x1), some (zI x2), some (zI x3), some (zI x4), some (zI x5), some (zI x6), some (zI x7), some (zI x8), some (zI x9), some (zI x10), some (zI x11), none, none, none, some (zI x15), some (zI x16), some (zI x29), none]) rfl rfl (hk67 _ _ _ _ _ _ _ _ _ _ _ _ _ _ _ _ _ _ H)
    · cases H
      exact zA_callX (as := [zrv s0, zI s1, zI s2, zI s3, zI ((1 : Int32) + x22)]) (st' := []) rfl rfl (zrcv_Q e25 c26) rfl (zmE50 _ _ _ _ _) rfl rfl rfl (zmS50 C)
  · cases H
    exact zA_callX (as := [zI (x10 >>> (((3 : Int32) * x17) &&& 31)), zI (100 : Int32)]) (st' := [zI (1 : Int32), zI s3, zI s2, zI s1, zrv s0]) rfl rfl rfl (zsk4_w (by simp only [zsw, zcat_rv, show ∀ x : Int32, zcat (zI x) = 1 from fun _ => rfl]; decide)) (zmE242 _ _) rfl rfl rfl (zmS242 C)
def zm291_86 (k67 : zq → zq → Int32 → Int32 → Int32 → Int32 → Int32 → Int32 → Int32 → Int32 → Int32 → Int32 → Int32 → Int32 → Int32 → zH → zRs Int32) (x0 : zq) (x1 : zq) (x2 : Int32) (x3 : Int32) (x4 : Int32) (x5 : Int32) (x6 : Int32) (x7 : Int32) (x8 : Int32) (x9 : Int32) (x10 : Int32) (x11 : Int32) (x15 : Int32) (x16 : Int32) (x17 : Int32) (x18 : Int32) (s0 : zq) (s1 : Int32) (s2 : Int32) (h : zH) : zRs Int32 :=
  if x18 = (1 : Int32) then
    zb (zm242 (x11 >>> (x17 &&& 31)) (4 : Int32) h) fun x23 h22 =>
    zm291_102 k67 x0 x1 x2 x3 x4 x5 x6 x7 x8 x9 x10 x11 x15 x16 x17 s0 s1 s2 x23 h22
  else
    zb (zm242 (x11 >>> ((x17 + (4 : Int32)) &&& 31)) (3 : Int32) h) fun x25 h24 =>
    zm291_102 k67 x0 x1 x2 x3 x4 x5 x6 x7 x8 x9 x10 x11 x15 x16 x17 s0 s1 s2 x25 h24
theorem zmS291_86 {k67 : zq → zq → Int32 → Int32 → Int32 → Int32 → Int32 → Int32 → Int32 → Int32 → Int32 → Int32 → Int32 → Int32 → Int32 → zH → zRs Int32} (hk67 : ∀ (x0 : zq) (x1 : zq) (x2 : Int32) (x3 : Int32) (x4 : Int32) (x5 : Int32) (x6 : Int32) (x7 : Int32) (x8 : Int32) (x9 : Int32) (x10 : Int32) (x11 : Int32) (x15 : Int32) (x16 : Int32) (x17 : Int32) (h : zH) (r : Int32 ⊕ Nat) (h' : zH), k67 x0 x1 x2 x3 x4 x5 x6 x7 x8 x9 x10 x11 x15 x16 x17 h = some (r, h') → zAt 291 67 [some (zrv x0), some (zrv x1), some (zI x2), some (zI x3), some (zI x4), some (zI x5), some (zI x6), some (zI x7), some (zI x8), some (zI x9), some (zI x10), some (zI x11), none, none, none, some (zI x15), some (zI x16), some (zI x17), none] [] h (zoI r) h') : ∀ (x0 : zq) (x1 : zq) (x2 : Int32) (x3 : Int32) (x4 : Int32) (x5 : Int32) (x6 : Int32) (x7 : Int32) (x8 : Int32) (x9 : Int32) (x10 : Int32) (x11 : Int32) (x15 : Int32) (x16 : Int32) (x17 : Int32) (x18 : Int32) (s0 : zq) (s1 : Int32) (s2 : Int32) (h : zH) (r : Int32 ⊕ Nat) (h' : zH), zm291_86 k67 x0 x1 x2 x3 x4 x5 x6 x7 x8 x9 x10 x11 x15 x16 x17 x18 s0 s1 s2 h = some (r, h') → zAt 291 86 [some (zrv x0), some (zrv x1), some (zI x2), some (zI x3), some (zI x4), some (zI x5), some (zI x6), some (zI x7), some (zI x8), some (zI x9), some (zI x10), some (zI x11), none, none, none, some (zI x15), some (zI x16), some (zI x17), some (zI x18)] [zI s2, zI s1, zrv s0] h (zoI r) h' := by
  intro x0 x1 x2 x3 x4 x5 x6 x7 x8 x9 x10 x11 x15 x16 x17 x18 s0 s1 s2 h r h' H
  unfold zm291_86 at H
  refine zA_ld rfl rfl rfl ?_
  refine zA_push rfl rfl zkk5 ?_
  rcases zite_e H with ⟨c21, H⟩ | ⟨c21, H⟩
  · refine zA_brF' (c := x18 = (1 : Int32)) rfl rfl rfl c21 ?_
    refine zA_ld rfl rfl rfl ?_
    refine zA_ld rfl rfl rfl ?_
    refine zA_st (st' := [zI (x11 >>> (x17 &&& 31)), zI s2, zI s1, zrv s0]) rfl rfl rfl rfl ?_
    refine zA_push rfl rfl zkk9 ?_
    rcases zb_e H with ⟨x23, h22, C, H⟩ | ⟨E, h22, C, H⟩
    · refine zA_callV (as := [zI (x11 >>> (x17 &&& 31)), zI (4 : Int32)]) (st' := [zI s2, zI s1, zrv s0]) rfl rfl rfl rfl rfl (zmE242 _ _) rfl (zmS242 C) ?_
      refine zA_go rfl rfl ?_
      exact zA_tr (L := [some (zrv x0), some (zrv x1), some (zI x2), some (zI x3), some (zI x4), some (zI x5), some (zI x6), some (zI x7), some (zI x8), some (zI x9), some (zI x10), some (zI x11), none, none, none, some (zI x15), some (zI x16), some (zI x17), none]) rfl rfl (zmS291_102 hk67 _ _ _ _ _ _ _ _ _ _ _ _ _ _ _ _ _ _ _ _ _ _ H)
    · cases H
      exact zA_callX (as := [zI (x11 >>> (x17 &&& 31)), zI (4 : Int32)]) (st' := [zI s2, zI s1, zrv s0]) rfl rfl rfl rfl (zmE242 _ _) rfl rfl rfl (zmS242 C)
  · refine zA_brT' (c := x18 = (1 : Int32)) rfl rfl rfl c21 ?_
    refine zA_tr (L := [some (zrv x0), some (zrv x1), some (zI x2), some (zI x3), some (zI x4), some (zI x5), some (zI x6), some (zI x7), some (zI x8), some (zI x9), some (zI x10), some (zI x11), none, none, none, some (zI x15), some (zI x16), some (zI x17), none]) rfl rfl ?_
    refine zA_ld rfl rfl rfl ?_
    refine zA_ld rfl rfl rfl ?_
    refine zA_push rfl rfl zkk9 ?_
    refine zA_st (st' := [zI (x17 + (4 : Int32)), zI x11, zI s2, zI s1, zrv s0]) rfl rfl rfl rfl ?_
    refine zA_st (st' := [zI (x11 >>> ((x17 + (4 : Int32)) &&& 31)), zI s2, zI s1, zrv s0]) rfl rfl rfl rfl ?_
    refine zA_push rfl rfl zkk3 ?_
    rcases zb_e H with ⟨x25, h24, C, H⟩ | ⟨E, h24, C, H⟩
    · refine zA_callV (as := [zI (x11 >>> ((x17 + (4 : Int32)) &&& 31)), zI (3 : Int32)]) (st' := [zI s2, zI s1, zrv s0]) rfl rfl rfl rfl rfl (zmE242 _ _) rfl (zmS242 C) ?_
      exact zA_tr (L := [some (zrv x0), some (zrv x1), some (zI x2), some (zI x3), some (zI x4), some (zI x5), some (zI x6), some (zI x7), some (zI x8), some (zI x9), some (zI x10), some (zI x11), none, none, none, some (zI x15), some (zI x16), some (zI x17), none]) rfl rfl (zmS291_102 hk67 _ _ _ _ _ _ _ _ _ _ _ _ _ _ _ _ _ _ _ _ _ _ H)
    · cases H
      exact zA_callX (as := [zI (x11 >>> ((x17 + (4 : Int32)) &&& 31)), zI (3 : Int32)]) (st' := [zI s2, zI s1, zrv s0]) rfl rfl rfl rfl (zmE242 _ _) rfl rfl rfl (zmS242 C)
def zm291_67 (k115 : zq → zq → Int32 → Int32 → Int32 → Int32 → Int32 → Int32 → Int32 → Int32 → Int32 → Int32 → zH → zRs Int32) : Nat → zq → zq → Int32 → Int32 → Int32 → Int32 → Int32 → Int32 → Int32 → Int32 → Int32 → Int32 → Int32 → Int32 → Int32 → zH → zRs Int32
  | 0, _, _, _, _, _, _, _, _, _, _, _, _, _, _, _, _ => none
  | n + 1, x0, x1, x2, x3, x4, x5, x6, x7, x8, x9, x10, x11, x15, x16, x17, h =>
    if x16 ≤ x17 then
      k115 x0 x1 x2 x3 x4 x5 x6 x7 x8 x9 x11 x15 h
    else
      zb (zm242 (x10 >>> (((2 : Int32) * x17) &&& 31)) (5 : Int32) h) fun x23 h22 =>
      if x23 = (3 : Int32) then
        zm291_86 (zm291_67 k115 n) x0 x1 x2 x3 x4 x5 x6 x7 x8 x9 x10 x11 x15 x16 x17 x23 x1 x4 (6 : Int32) h22
      else
        zm291_86 (zm291_67 k115 n) x0 x1 x2 x3 x4 x5 x6 x7 x8 x9 x10 x11 x15 x16 x17 x23 x1 x4 x23 h22
theorem zmS291_67 {k115 : zq → zq → Int32 → Int32 → Int32 → Int32 → Int32 → Int32 → Int32 → Int32 → Int32 → Int32 → zH → zRs Int32} (hk115 : ∀ (x0 : zq) (x1 : zq) (x2 : Int32) (x3 : Int32) (x4 : Int32) (x5 : Int32) (x6 : Int32) (x7 : Int32) (x8 : Int32) (x9 : Int32) (x11 : Int32) (x15 : Int32) (h : zH) (r : Int32 ⊕ Nat) (h' : zH), k115 x0 x1 x2 x3 x4 x5 x6 x7 x8 x9 x11 x15 h = some (r, h') → zAt 291 115 [some (zrv x0), some (zrv x1), some (zI x2), some (zI x3), some (zI x4), some (zI x5), some (zI x6), some (zI x7), some (zI x8), some (zI x9), none, some (zI x11), none, none, none, some (zI x15), none, none, none] [] h (zoI r) h') : ∀ (n : Nat) (x0 : zq) (x1 : zq) (x2 : Int32) (x3 : Int32) (x4 : Int32) (x5 : Int32) (x6 : Int32) (x7 : Int32) (x8 : Int32) (x9 : Int32) (x10 : Int32) (x11 : Int32) (x15 : Int32) (x16 : Int32) (x17 : Int32) (h : zH) (r : Int32 ⊕ Nat) (h' : zH), zm291_67 k115 n x0 x1 x2 x3 x4 x5 x6 x7 x8 x9 x10 x11 x15 x16 x17 h = some (r, h') → zAt 291 67 [some (zrv x0), some (zrv x1), some (zI x2), some (zI x3), some (zI x4), some (zI x5), some (zI x6), some (zI x7), some (zI x8), some (zI x9), some (zI x10), some (zI x11), none, none, none, some (zI x15), some (zI x16), some (zI x17), none] [] h (zoI r) h' := by
  intro n
  induction n with
  | zero => intro x0 x1 x2 x3 x4 x5 x6 x7 x8 x9 x10 x11 x15 x16 x17 h r h' H; cases H
  | succ n ih =>
    intro x0 x1 x2 x3 x4 x5 x6 x7 x8 x9 x10 x11 x15 x16 x17 h r h' H
    unfold zm291_67 at H
    refine zA_ld rfl rfl rfl ?_
    refine zA_ld rfl rfl rfl ?_
    rcases zite_e H with ⟨c21, H⟩ | ⟨c21, H⟩
    · refine zA_brT (c := x16 ≤ x17) rfl rfl rfl c21 ?_
      exact zA_tr (L := [some (zrv x0), some (zrv x1), some (zI x2), some (zI x3), some (zI x4), some (zI x5), some (zI x6), some (zI x7), some (zI x8), some (zI x9), none, some (zI x11), none, none, none, some (zI x15), none, none, none]) rfl rfl (hk115 _ _ _ _ _ _ _ _ _ _ _ _ _ _ _ H)
    · refine zA_brF (c := x16 ≤ x17) rfl rfl rfl c21 ?_
      refine zA_ld rfl rfl rfl ?_
      refine zA_push rfl rfl zkk15 ?_
      refine zA_ld rfl rfl rfl ?_
      refine zA_st (st' := [zI ((2 : Int32) * x17), zI x10]) rfl rfl rfl rfl ?_
      refine zA_st (st' := [zI (x10 >>> (((2 : Int32) * x17) &&& 31))]) rfl rfl rfl rfl ?_
      refine zA_push rfl rfl zkk16 ?_
      rcases zb_e H with ⟨x23, h22, C, H⟩ | ⟨E, h22, C, H⟩
      · refine zA_callV (as := [zI (x10 >>> (((2 : Int32) * x17) &&& 31)), zI (5 : Int32)]) (st' := []) rfl rfl rfl rfl rfl (zmE242 _ _) rfl (zmS242 C) ?_
        refine zA_ist2 rfl rfl rfl (zset1 (L' := [some (zrv x0), some (zrv x1), some (zI x2), some (zI x3), some (zI x4), some (zI x5), some (zI x6), some (zI x7), some (zI x8), some (zI x9), some (zI x10), some (zI x11), none, none, none, some (zI x15), some (zI x16), some (zI x17), some (zI x23)]) rfl rfl (zpcV rfl rfl)) ?_
        refine zA_aldn rfl rfl rfl ?_
        refine zA_ld rfl rfl rfl ?_
        refine zA_ld rfl rfl rfl ?_
        refine zA_push rfl rfl zkk3 ?_
        rcases zite_e H with ⟨c24, H⟩ | ⟨c24, H⟩
        · refine zA_brF' (c := x23 = (3 : Int32)) rfl rfl rfl c24 ?_
          refine zA_push rfl rfl zkk14 ?_
          refine zA_go rfl rfl ?_
          exact zA_tr (L := [some (zrv x0), some (zrv x1), some (zI x2), some (zI x3), some (zI x4), some (zI x5), some (zI x6), some (zI x7), some (zI x8), some (zI x9), some (zI x10), some (zI x11), none, none, none, some (zI x15), some (zI x16), some (zI x17), some (zI x23)]) rfl rfl (zmS291_86 ih _ _ _ _ _ _ _ _ _ _ _ _ _ _ _ _ _ _ _ _ _ _ H)
        · refine zA_brT' (c := x23 = (3 : Int32)) rfl rfl rfl c24 ?_
          refine zA_ld rfl rfl rfl ?_
          exact zA_tr (L := [some (zrv x0), some (zrv x1), some (zI x2), some (zI x3), some (zI x4), some (zI x5), some (zI x6), some (zI x7), some (zI x8), some (zI x9), some (zI x10), some (zI x11), none, none, none, some (zI x15), some (zI x16), some (zI x17), some (zI x23)]) rfl rfl (zmS291_86 ih _ _ _ _ _ _ _ _ _ _ _ _ _ _ _ _ _ _ _ _ _ _ H)
      · cases H
        exact zA_callX (as := [zI (x10 >>> (((2 : Int32) * x17) &&& 31)), zI (5 : Int32)]) (st' := []) rfl rfl rfl rfl (zmE242 _ _) rfl rfl rfl (zmS242 C)
def zm291_115 (k20 : zq → zq → Int32 → Int32 → Int32 → Int32 → Int32 → Int32 → Int32 → Int32 → zH → zRs Int32) (x0 : zq) (x1 : zq) (x2 : Int32) (x3 : Int32) (x4 : Int32) (x5 : Int32) (x6 : Int32) (x7 : Int32) (x8 : Int32) (x9 : Int32) (x11 : Int32) (x15 : Int32) (h : zH) : zRs Int32 :=
  zlet (x4 + (1 : Int32)) fun x21 =>
  zm291_594 k20 x0 x1 x2 x3 x21 x5 x6 x7 x8 x9 x11 x15 h
theorem zmS291_115 {k20 : zq → zq → Int32 → Int32 → Int32 → Int32 → Int32 → Int32 → Int32 → Int32 → zH → zRs Int32} (hk20 : ∀ (x0 : zq) (x1 : zq) (x2 : Int32) (x3 : Int32) (x4 : Int32) (x5 : Int32) (x6 : Int32) (x7 : Int32) (x8 : Int32) (x9 : Int32) (h : zH) (r : Int32 ⊕ Nat) (h' : zH), k20 x0 x1 x2 x3 x4 x5 x6 x7 x8 x9 h = some (r, h') → zAt 291 20 [some (zrv x0), some (zrv x1), some (zI x2), some (zI x3), some (zI x4), some (zI x5), some (zI x6), some (zI x7), some (zI x8), some (zI x9), none, none, none, none, none, none, none, none, none] [] h (zoI r) h') : ∀ (x0 : zq) (x1 : zq) (x2 : Int32) (x3 : Int32) (x4 : Int32) (x5 : Int32) (x6 : Int32) (x7 : Int32) (x8 : Int32) (x9 : Int32) (x11 : Int32) (x15 : Int32) (h : zH) (r : Int32 ⊕ Nat) (h' : zH), zm291_115 k20 x0 x1 x2 x3 x4 x5 x6 x7 x8 x9 x11 x15 h = some (r, h') → zAt 291 115 [some (zrv x0), some (zrv x1), some (zI x2), some (zI x3), some (zI x4), some (zI x5), some (zI x6), some (zI x7), some (zI x8), some (zI x9), none, some (zI x11), none, none, none, some (zI x15), none, none, none] [] h (zoI r) h' := by
  intro x0 x1 x2 x3 x4 x5 x6 x7 x8 x9 x11 x15 h r h' H
  unfold zm291_115 at H
  obtain ⟨x21, e22, H⟩ := zlet_e H
  refine zA_inc rfl rfl rfl (e22.trans (congrArg (_ + ·) zkk8)) (zset1 (L' := [some (zrv x0), some (zrv x1), some (zI x2), some (zI x3), some (zI x21), some (zI x5), some (zI x6), some (zI x7), some (zI x8), some (zI x9), none, some (zI x11), none, none, none, some (zI x15), none, none, none]) rfl rfl (zpcV rfl rfl)) ?_
  refine zA_go rfl rfl ?_
  exact zA_tr (L := [some (zrv x0), some (zrv x1), some (zI x2), some (zI x3), some (zI x21), some (zI x5), some (zI x6), some (zI x7), some (zI x8), some (zI x9), none, some (zI x11), none, none, none, some (zI x15), none, none, none]) rfl rfl (zmS291_594 hk20 _ _ _ _ _ _ _ _ _ _ _ _ _ _ _ H)
def zm291_20 (k623 : Int32 → zH → zRs Int32) : Nat → zq → zq → Int32 → Int32 → Int32 → Int32 → Int32 → Int32 → Int32 → Int32 → zH → zRs Int32
  | 0, _, _, _, _, _, _, _, _, _, _, _ => none
  | n + 1, x0, x1, x2, x3, x4, x5, x6, x7, x8, x9, h =>
    if (60 : Int32) ≤ x9 then
      k623 x8 h
    else
      zb (zm241 x0 ((2 : Int32) * x9) h) fun x23 h22 =>
      zb (zm241 x0 (((2 : Int32) * x9) + (1 : Int32)) h22) fun x25 h24 =>
      zb (zm242 x23 (20 : Int32) h24) fun x27 h26 =>
      zb (zm242 x25 (2 : Int32) h26) fun x29 h28 =>
      zb (zm242 (x25 >>> ((1 : Int32) &&& 31)) (3 : Int32) h28) fun x31 h30 =>
      if (3 : Int32) ≤ x4 then
        if x2 < (3 : Int32) then
          zm291_123 (zm291_20 k623 n) x0 x1 x2 x3 x4 x5 x6 x7 x8 x9 x25 x29 (1 : Int32) h30
        else
          if (3 : Int32) ≤ x27 then
            if (6 : Int32) ≤ x27 then
              if (11 : Int32) ≤ x27 then
                if x27 = (11 : Int32) then
                  if x3 ≤ 0 then
                    zm291_594 (zm291_20 k623 n) x0 x1 x2 x3 x4 x5 x6 x7 x8 x9 x25 (1 : Int32) h30
                  else
                    zob 11 x1 fun p39 i40 =>
                    zb (zm61 x1 (x3 - (1 : Int32)) h30) fun x44 h43 =>
                    if (2 : Int32) ≤ x44 then
                      zm291_594 (zm291_20 k623 n) x0 x1 x2 x3 x4 x5 x6 x7 x8 x9 x25 (1 : Int32) h43
                    else
                      zb (zm55 x1 (x3 - (1 : Int32)) h43) fun x47 h46 =>
                      if x47 < 0 then
                        zm291_304 (zm291_20 k623 n) x0 x1 x2 x3 x4 x5 x6 x7 x8 x9 x25 (0 : Int32) h46
                      else
                        if (3 : Int32) < x47 then
                          zm291_304 (zm291_20 k623 n) x0 x1 x2 x3 x4 x5 x6 x7 x8 x9 x25 (0 : Int32) h46
                        else
                          zb (zm61 x1 (x3 - (1 : Int32)) h46) fun x51 h50 =>
                          if x51 = (3 : Int32) then
                            zb (zm63 x1 (x3 - (1 : Int32)) h50) fun x54 h53 =>
                            if x54 = (14 : Int32) then
                              zm291_304 (zm291_20 k623 n) x0 x1 x2 x3 x4 x5 x6 x7 x8 x9 x25 (1 : Int32) h53
                            else
                              zm291_304 (zm291_20 k623 n) x0 x1 x2 x3 x4 x5 x6 x7 x8 x9 x25 (0 : Int32) h53
                          else
                            zm291_304 (zm291_20 k623 n) x0 x1 x2 x3 x4 x5 x6 x7 x8 x9 x25 (0 : Int32) h50
                else
                  if x27 = (12 : Int32) then
                    zob 11 x1 fun p57 i58 =>
                    zb (zm88 x1 x29 x5 h30) fun x62 h61 =>
                    if x62 < 0 then
                      zm291_594 (zm291_20 k623 n) x0 x1 x2 x3 x4 x5 x6 x7 x8 x9 x25 (1 : Int32) h61
                    else
                      if (40 : Int32) ≤ x5 then
                        zm291_594 (zm291_20 k623 n) x0 x1 x2 x3 x4 x5 x6 x7 x8 x9 x25 (1 : Int32) h61
                      else
                        zb (zm91 x1 x29 x5 h61) fun x66 h65 =>
                        if x66 = x62 then
                          zb (zm88 x1 x29 x5 h65) fun x69 h68 =>
                          if x69 = x62 then
                            zb (zm43 x1 x62 h68) fun x72 h71 =>
                            if x72 = 0 then
                              zm291_340 (zm291_20 k623 n) x0 x1 x2 x3 x4 x5 x6 x7 x8 x9 x25 x29 x5 x62 (0 : Int32) h71
                            else
                              zm291_340 (zm291_20 k623 n) x0 x1 x2 x3 x4 x5 x6 x7 x8 x9 x25 x29 x5 x62 (1 : Int32) h71
                          else
                            zm291_340 (zm291_20 k623 n) x0 x1 x2 x3 x4 x5 x6 x7 x8 x9 x25 x29 x5 x62 (0 : Int32) h68
                        else
                          zm291_340 (zm291_20 k623 n) x0 x1 x2 x3 x4 x5 x6 x7 x8 x9 x25 x29 x5 x62 (0 : Int32) h65
                  else
                    if x27 = (13 : Int32) then
                      zob 11 x1 fun p75 i76 =>
                      zb (zm85 x1 x29 x31 h30) fun x80 h79 =>
                      if x80 < 0 then
                        zm291_594 (zm291_20 k623 n) x0 x1 x2 x3 x4 x5 x6 x7 x8 x9 x25 (1 : Int32) h79
                      else
                        zb (zm86 x1 x29 x31 h79) fun x83 h82 =>
                        if x83 < 0 then
                          zm291_594 (zm291_20 k623 n) x0 x1 x2 x3 x4 x5 x6 x7 x8 x9 x25 (1 : Int32) h82
                        else
                          if (500 : Int32) ≤ x6 then
                            zm291_594 (zm291_20 k623 n) x0 x1 x2 x3 x4 x5 x6 x7 x8 x9 x25 (1 : Int32) h82
                          else
                            zm291_379 (zm291_416 (zm291_20 k623 n)) zN0 x0 x1 x2 x3 x4 x5 x6 x7 x8 x9 x25 x29 x31 (1 : Int32) (0 : Int32) h82
                    else
                      if x27 = (14 : Int32) then
                        zob 11 x1 fun p87 i88 =>
                        zb (zm106 x1 x29 h30) fun x92 h91 =>
                        zb (zm106 x1 x29 h91) fun x94 h93 =>
                        if x94 = x92 then
                          zm291_433 (zm291_20 k623 n) x0 x1 x2 x3 x4 x5 x6 x7 x8 x9 x25 x29 (0 : Int32) h93
                        else
                          zm291_433 (zm291_20 k623 n) x0 x1 x2 x3 x4 x5 x6 x7 x8 x9 x25 x29 (1 : Int32) h93
                      else
                        if x27 = (15 : Int32) then
                          zob 11 x1 fun p97 i98 =>
                          zb (zm111 x1 x31 h30) fun x102 h101 =>
                          zb (zm242 (x25 >>> ((3 : Int32) &&& 31)) (3 : Int32) h101) fun x104 h103 =>
                          zb (zm109 x1 x31 x104 h103) fun x106 h105 =>
                          zb (zm111 x1 x31 h105) fun x108 h107 =>
                          if x106 = 0 then
                            zm291_470 (zm291_20 k623 n) x0 x1 x2 x3 x4 x5 x6 x7 x8 x9 x25 x31 x108 x102 (4 : Int32) h107
                          else
                            zm291_470 (zm291_20 k623 n) x0 x1 x2 x3 x4 x5 x6 x7 x8 x9 x25 x31 x108 x102 (-4 : Int32) h107
                        else
                          if x27 = (16 : Int32) then
                            zob 11 x1 fun p111 i112 =>
                            zb (zm83 x1 h30) fun x116 h115 =>
                            if x116 = 0 then
                              zb (zm242 (x25 >>> ((4 : Int32) &&& 31)) (2 : Int32) h115) fun x119 h118 =>
                              if x119 = 0 then
                                zm291_521 (zm291_20 k623 n) x0 x1 x2 x3 x4 x5 x6 x7 x8 x9 x25 (1 : Int32) x1 (1 : Int32) h118
                              else
                                zm291_521 (zm291_20 k623 n) x0 x1 x2 x3 x4 x5 x6 x7 x8 x9 x25 (1 : Int32) x1 (0 : Int32) h118
                            else
                              zb (zm82 x1 h115) fun x122 h121 =>
                              if x122 < 0 then
                                zm291_509 (zm291_20 k623 n) x0 x1 x2 x3 x4 x5 x6 x7 x8 x9 x25 (0 : Int32) h121
                              else
                                zb (zm83 x1 h121) fun x125 h124 =>
                                if x125 = 0 then
                                  zm291_509 (zm291_20 k623 n) x0 x1 x2 x3 x4 x5 x6 x7 x8 x9 x25 (1 : Int32) h124
                                else
                                  zm291_509 (zm291_20 k623 n) x0 x1 x2 x3 x4 x5 x6 x7 x8 x9 x25 (0 : Int32) h124
                          else
                            if x27 = (17 : Int32) then
                              if x3 ≤ 0 then
                                zm291_594 (zm291_20 k623 n) x0 x1 x2 x3 x4 x5 x6 x7 x8 x9 x25 (1 : Int32) h30
                              else
                                zob 11 x1 fun p129 i130 =>
                                zb (zm61 x1 (x3 - (1 : Int32)) h30) fun x134 h133 =>
                                if (2 : Int32) ≤ x134 then
                                  zm291_594 (zm291_20 k623 n) x0 x1 x2 x3 x4 x5 x6 x7 x8 x9 x25 (1 : Int32) h133
                                else
                                  zb (zm63 x1 (x3 - (1 : Int32)) h133) fun x137 h136 =>
                                  if x137 < 0 then
                                    zm291_558 (zm291_20 k623 n) x0 x1 x2 x3 x4 x5 x6 x7 x8 x9 x25 (0 : Int32) h136
                                  else
                                    if (14 : Int32) ≤ x137 then
                                      zm291_558 (zm291_20 k623 n) x0 x1 x2 x3 x4 x5 x6 x7 x8 x9 x25 (0 : Int32) h136
                                    else
                                      if x137 = (13 : Int32) then
                                        zm291_552 (zm291_20 k623 n) x0 x1 x2 x3 x4 x5 x6 x7 x8 x9 x25 (1 : Int32) h136
                                      else
                                        zm291_552 (zm291_20 k623 n) x0 x1 x2 x3 x4 x5 x6 x7 x8 x9 x25 (0 : Int32) h136
                            else
                              zm291_564 (zm291_576 (zm291_20 k623 n)) zN0 x0 x1 x2 x3 x4 x5 x6 x7 x8 x9 x25 x31 (0 : Int32) (0 : Int32) h30
              else
                zb (zm242 (x25 >>> ((4 : Int32) &&& 31)) (6 : Int32) h30) fun x142 h141 =>
                zlet ((1 : Int32) + x142) fun x143 =>
                zob 11 x1 fun p145 i146 =>
                zb (zm73 x1 x143 h141) fun x150 h149 =>
                zlet (x8 + x143) fun x151 =>
                zm291_594 (zm291_20 k623 n) x0 x1 x2 x3 x4 x5 x6 x7 x151 x9 x25 (1 : Int32) h149
            else
              if (20 : Int32) ≤ x3 then
                zm291_594 (zm291_20 k623 n) x0 x1 x2 x3 x4 x5 x6 x7 x8 x9 x25 (1 : Int32) h30
              else
                if x2 ≤ x3 then
                  zm291_594 (zm291_20 k623 n) x0 x1 x2 x3 x4 x5 x6 x7 x8 x9 x25 (1 : Int32) h30
                else
                  zb (zm242 (x25 >>> ((9 : Int32) &&& 31)) x4 h30) fun x156 h155 =>
                  zob 11 x1 fun p157 i158 =>
                  zb (zm52 x1 x3 x156 h155) fun x162 h161 =>
                  if x162 = x3 then
                    zb (zm61 x1 x3 h161) fun x165 h164 =>
                    if x165 = 0 then
                      zb (zm62 x1 x3 h164) fun x168 h167 =>
                      if x168 = 0 then
                        zm291_241 (zm291_20 k623 n) x0 x1 x2 x3 x4 x5 x6 x7 x8 x9 x25 (1 : Int32) h167
                      else
                        zm291_241 (zm291_20 k623 n) x0 x1 x2 x3 x4 x5 x6 x7 x8 x9 x25 (0 : Int32) h167
                    else
                      zm291_241 (zm291_20 k623 n) x0 x1 x2 x3 x4 x5 x6 x7 x8 x9 x25 (0 : Int32) h164
                  else
                    zm291_241 (zm291_20 k623 n) x0 x1 x2 x3 x4 x5 x6 x7 x8 x9 x25 (0 : Int32) h161
          else
            zm291_123 (zm291_20 k623 n) x0 x1 x2 x3 x4 x5 x6 x7 x8 x9 x25 x29 (1 : Int32) h30
      else
        zob 11 x1 fun p170 i171 =>
        zb (zm49 x1 h30) fun x175 h174 =>
        zb (zm242 x25 (5 : Int32) h174) fun x177 h176 =>
        zlet ((1 : Int32) + x177) fun x178 =>
        zm291_67 (zm291_115 (zm291_20 k623 n)) zN0 x0 x1 x2 x3 x4 x5 x6 x7 x8 x9 x23 x25 (1 : Int32) x178 (0 : Int32) h176
theorem zmS291_20 {k623 : Int32 → zH → zRs Int32} (hk623 : ∀ (x8 : Int32) (h : zH) (r : Int32 ⊕ Nat) (h' : zH), k623 x8 h = some (r, h') → zAt 291 623 [none, none, none, none, none, none, none, none, some (zI x8), none, none, none, none, none, none, none, none, none, none] [] h (zoI r) h') : ∀ (n : Nat) (x0 : zq) (x1 : zq) (x2 : Int32) (x3 : Int32) (x4 : Int32) (x5 : Int32) (x6 : Int32) (x7 : Int32) (x8 : Int32) (x9 : Int32) (h : zH) (r : Int32 ⊕ Nat) (h' : zH), zm291_20 k623 n x0 x1 x2 x3 x4 x5 x6 x7 x8 x9 h = some (r, h') → zAt 291 20 [some (zrv x0), some (zrv x1), some (zI x2), some (zI x3), some (zI x4), some (zI x5), some (zI x6), some (zI x7), some (zI x8), some (zI x9), none, none, none, none, none, none, none, none, none] [] h (zoI r) h' := by
  intro n
  induction n with
  | zero => intro x0 x1 x2 x3 x4 x5 x6 x7 x8 x9 h r h' H; cases H
  | succ n ih =>
    intro x0 x1 x2 x3 x4 x5 x6 x7 x8 x9 h r h' H
    unfold zm291_20 at H
    refine zA_ld rfl rfl rfl ?_
    refine zA_push rfl rfl zkk45 ?_
    rcases zite_e H with ⟨c21, H⟩ | ⟨c21, H⟩
    · refine zA_brT (c := (60 : Int32) ≤ x9) rfl rfl rfl c21 ?_
      exact zA_tr (L := [none, none, none, none, none, none, none, none, some (zI x8), none, none, none, none, none, none, none, none, none, none]) rfl rfl (hk623 _ _ _ _ H)
    · refine zA_brF (c := (60 : Int32) ≤ x9) rfl rfl rfl c21 ?_
      refine zA_aldn rfl rfl rfl ?_
      refine zA_push rfl rfl zkk15 ?_
      refine zA_ld rfl rfl rfl ?_
      refine zA_st (st' := [zI ((2 : Int32) * x9), zrv x0]) rfl rfl rfl rfl ?_
      rcases zb_e H with ⟨x23, h22, C, H⟩ | ⟨E, h22, C, H⟩
      · refine zA_callV (as := [zrv x0, zI ((2 : Int32) * x9)]) (st' := []) rfl rfl rfl rfl rfl (zmE241 _ _) rfl (zmS241 C) ?_
        refine zA_ist2 rfl rfl rfl (zset1 (L' := [some (zrv x0), some (zrv x1), some (zI x2), some (zI x3), some (zI x4), some (zI x5), some (zI x6), some (zI x7), some (zI x8), some (zI x9), some (zI x23), none, none, none, none, none, none, none, none]) rfl rfl (zpcV rfl rfl)) ?_
        refine zA_aldn rfl rfl rfl ?_
        refine zA_push rfl rfl zkk15 ?_
        refine zA_ld rfl rfl rfl ?_
        refine zA_st (st' := [zI ((2 : Int32) * x9), zrv x0]) rfl rfl rfl rfl ?_
        refine zA_push rfl rfl zkk5 ?_
        refine zA_st (st' := [zI (((2 : Int32) * x9) + (1 : Int32)), zrv x0]) rfl rfl rfl rfl ?_
        rcases zb_e H with ⟨x25, h24, C, H⟩ | ⟨E, h24, C, H⟩
        · refine zA_callV (as := [zrv x0, zI (((2 : Int32) * x9) + (1 : Int32))]) (st' := []) rfl rfl rfl rfl rfl (zmE241 _ _) rfl (zmS241 C) ?_
          refine zA_ist2 rfl rfl rfl (zset1 (L' := [some (zrv x0), some (zrv x1), some (zI x2), some (zI x3), some (zI x4), some (zI x5), some (zI x6), some (zI x7), some (zI x8), some (zI x9), some (zI x23), some (zI x25), none, none, none, none, none, none, none]) rfl rfl (zpcV rfl rfl)) ?_
          refine zA_ld rfl rfl rfl ?_
          refine zA_push rfl rfl zkk23 ?_
          rcases zb_e H with ⟨x27, h26, C, H⟩ | ⟨E, h26, C, H⟩
          · refine zA_callV (as := [zI x23, zI (20 : Int32)]) (st' := []) rfl rfl rfl rfl rfl (zmE242 _ _) rfl (zmS242 C) ?_
            refine zA_ist2 rfl rfl rfl (zset1 (L' := [some (zrv x0), some (zrv x1), some (zI x2), some (zI x3), some (zI x4), some (zI x5), some (zI x6), some (zI x7), some (zI x8), some (zI x9), some (zI x23), some (zI x25), some (zI x27), none, none, none, none, none, none]) rfl rfl (zpcV rfl rfl)) ?_
            refine zA_ld rfl rfl rfl ?_
            refine zA_push rfl rfl zkk15 ?_
            rcases zb_e H with ⟨x29, h28, C, H⟩ | ⟨E, h28, C, H⟩
            · refine zA_callV (as := [zI x25, zI (2 : Int32)]) (st' := []) rfl rfl rfl rfl rfl (zmE242 _ _) rfl (zmS242 C) ?_
              refine zA_ist2 rfl rfl rfl (zset1 (L' := [some (zrv x0), some (zrv x1), some (zI x2), some (zI x3), some (zI x4), some (zI x5), some (zI x6), some (zI x7), some (zI x8), some (zI x9), some (zI x23), some (zI x25), some (zI x27), some (zI x29), none, none, none, none, none]) rfl rfl (zpcV rfl rfl)) ?_
              refine zA_ld rfl rfl rfl ?_
              refine zA_push rfl rfl zkk5 ?_
              refine zA_st (st' := [zI (x25 >>> ((1 : Int32) &&& 31))]) rfl rfl rfl rfl ?_
              refine zA_push rfl rfl zkk3 ?_
              rcases zb_e H with ⟨x31, h30, C, H⟩ | ⟨E, h30, C, H⟩
              · refine zA_callV (as := [zI (x25 >>> ((1 : Int32) &&& 31)), zI (3 : Int32)]) (st' := []) rfl rfl rfl rfl rfl (zmE242 _ _) rfl (zmS242 C) ?_
                refine zA_ist2 rfl rfl rfl (zset1 (L' := [some (zrv x0), some (zrv x1), some (zI x2), some (zI x3), some (zI x4), some (zI x5), some (zI x6), some (zI x7), some (zI x8), some (zI x9), some (zI x23), some (zI x25), some (zI x27), some (zI x29), some (zI x31), none, none, none, none]) rfl rfl (zpcV rfl rfl)) ?_
                refine zA_push rfl rfl zkk5 ?_
                refine zA_ist2 rfl rfl rfl (zset1 (L' := [some (zrv x0), some (zrv x1), some (zI x2), some (zI x3), some (zI x4), some (zI x5), some (zI x6), some (zI x7), some (zI x8), some (zI x9), some (zI x23), some (zI x25), some (zI x27), some (zI x29), some (zI x31), some (zI (1 : Int32)), none, none, none]) rfl rfl (zpcV rfl rfl)) ?_
                refine zA_ld rfl rfl rfl ?_
                refine zA_push rfl rfl zkk3 ?_
                rcases zite_e H with ⟨c32, H⟩ | ⟨c32, H⟩
                · refine zA_brT (c := (3 : Int32) ≤ x4) rfl rfl rfl c32 ?_
                  refine zA_tr (L := [some (zrv x0), some (zrv x1), some (zI x2), some (zI x3), some (zI x4), some (zI x5), some (zI x6), some (zI x7), some (zI x8), some (zI x9), none, some (zI x25), some (zI x27), some (zI x29), some (zI x31), some (zI (1 : Int32)), none, none, none]) rfl rfl ?_
                  refine zA_ldn rfl rfl rfl ?_
                  refine zA_push rfl rfl zkk3 ?_
                  rcases zite_e H with ⟨c33, H⟩ | ⟨c33, H⟩
                  · refine zA_brT (c := x2 < (3 : Int32)) rfl rfl rfl c33 ?_
                    exact zA_tr (L := [some (zrv x0), some (zrv x1), some (zI x2), some (zI x3), some (zI x4), some (zI x5), some (zI x6), some (zI x7), some (zI x8), some (zI x9), none, some (zI x25), none, some (zI x29), none, some (zI (1 : Int32)), none, none, none]) rfl rfl (zmS291_123 ih _ _ _ _ _ _ _ _ _ _ _ _ _ _ _ _ H)
                  · refine zA_brF (c := x2 < (3 : Int32)) rfl rfl rfl c33 ?_
                    refine zA_ld rfl rfl rfl ?_
                    refine zA_push rfl rfl zkk3 ?_
                    rcases zite_e H with ⟨c34, H⟩ | ⟨c34, H⟩
                    · refine zA_brT (c := (3 : Int32) ≤ x27) rfl rfl rfl c34 ?_
                      refine zA_ld rfl rfl rfl ?_
                      refine zA_push rfl rfl zkk14 ?_
                      rcases zite_e H with ⟨c35, H⟩ | ⟨c35, H⟩
                      · refine zA_brT (c := (6 : Int32) ≤ x27) rfl rfl rfl c35 ?_
                        refine zA_ld rfl rfl rfl ?_
                        refine zA_push rfl rfl zkk11 ?_
                        rcases zite_e H with ⟨c36, H⟩ | ⟨c36, H⟩
                        · refine zA_brT (c := (11 : Int32) ≤ x27) rfl rfl rfl c36 ?_
                          refine zA_ld rfl rfl rfl ?_
                          refine zA_push rfl rfl zkk11 ?_
                          rcases zite_e H with ⟨c37, H⟩ | ⟨c37, H⟩
                          · refine zA_brF' (c := x27 = (11 : Int32)) rfl rfl rfl c37 ?_
                            refine zA_ldn rfl rfl rfl ?_
                            rcases zite_e H with ⟨c38, H⟩ | ⟨c38, H⟩
                            · refine zA_brT (c := x3 ≤ 0) rfl rfl rfl c38 ?_
                              exact zA_tr (L := [some (zrv x0), some (zrv x1), some (zI x2), some (zI x3), some (zI x4), some (zI x5), some (zI x6), some (zI x7), some (zI x8), some (zI x9), none, some (zI x25), none, none, none, some (zI (1 : Int32)), none, none, none]) rfl rfl (zmS291_594 ih _ _ _ _ _ _ _ _ _ _ _ _ _ _ _ H)
                            · refine zA_brF (c := x3 ≤ 0) rfl rfl rfl c38 ?_
                              refine zA_aldn rfl rfl rfl ?_
                              refine zA_ldn rfl rfl rfl ?_
                              refine zA_push rfl rfl zkk5 ?_
                              refine zA_st (st' := [zI (x3 - (1 : Int32)), zrv x1]) rfl rfl rfl rfl ?_
                              obtain ⟨p39, i40, e41, c42, H⟩ := zob_e H
                              rcases zb_e H with ⟨x44, h43, C, H⟩ | ⟨E, h43, C, H⟩
                              · refine zA_callV (as := [zrv x1, zI (x3 - (1 : Int32))]) (st' := []) rfl rfl rfl (zrcv_Q e41 c42) rfl (zmE61 _ _) rfl (zmS61 C) ?_
                                refine zA_push rfl rfl zkk15 ?_
                                rcases zite_e H with ⟨c45, H⟩ | ⟨c45, H⟩
                                · refine zA_brT (c := (2 : Int32) ≤ x44) rfl rfl rfl c45 ?_
                                  exact zA_tr (L := [some (zrv x0), some (zrv x1), some (zI x2), some (zI x3), some (zI x4), some (zI x5), some (zI x6), some (zI x7), some (zI x8), some (zI x9), none, some (zI x25), none, none, none, some (zI (1 : Int32)), none, none, none]) rfl rfl (zmS291_594 ih _ _ _ _ _ _ _ _ _ _ _ _ _ _ _ H)
                                · refine zA_brF (c := (2 : Int32) ≤ x44) rfl rfl rfl c45 ?_
                                  refine zA_aldn rfl rfl rfl ?_
                                  refine zA_ldn rfl rfl rfl ?_
                                  refine zA_push rfl rfl zkk5 ?_
                                  refine zA_st (st' := [zI (x3 - (1 : Int32)), zrv x1]) rfl rfl rfl rfl ?_
                                  rcases zb_e H with ⟨x47, h46, C, H⟩ | ⟨E, h46, C, H⟩
                                  · refine zA_callV (as := [zrv x1, zI (x3 - (1 : Int32))]) (st' := []) rfl rfl rfl (zrcv_Q e41 c42) rfl (zmE55 _ _) rfl (zmS55 C) ?_
                                    refine zA_ist2 rfl rfl rfl (zset1 (L' := [some (zrv x0), some (zrv x1), some (zI x2), some (zI x3), some (zI x4), some (zI x5), some (zI x6), some (zI x7), some (zI x8), some (zI x9), none, some (zI x25), some (zI x27), some (zI x29), some (zI x31), some (zI (1 : Int32)), some (zI x47), none, none]) rfl rfl (zpcV rfl rfl)) ?_
                                    refine zA_ld rfl rfl rfl ?_
                                    rcases zite_e H with ⟨c48, H⟩ | ⟨c48, H⟩
                                    · refine zA_brT (c := x47 < 0) rfl rfl rfl c48 ?_
                                      refine zA_tr (L := [some (zrv x0), some (zrv x1), some (zI x2), some (zI x3), some (zI x4), some (zI x5), some (zI x6), some (zI x7), some (zI x8), some (zI x9), none, some (zI x25), none, none, none, none, none, none, none]) rfl rfl ?_
                                      refine zA_push rfl rfl zkk7 ?_
                                      exact zA_tr (L := [some (zrv x0), some (zrv x1), some (zI x2), some (zI x3), some (zI x4), some (zI x5), some (zI x6), some (zI x7), some (zI x8), some (zI x9), none, some (zI x25), none, none, none, none, none, none, none]) rfl rfl (zmS291_304 ih _ _ _ _ _ _ _ _ _ _ _ _ _ _ _ H)
                                    · refine zA_brF (c := x47 < 0) rfl rfl rfl c48 ?_
                                      refine zA_ld rfl rfl rfl ?_
                                      refine zA_push rfl rfl zkk3 ?_
                                      rcases zite_e H with ⟨c49, H⟩ | ⟨c49, H⟩
                                      · refine zA_brT (c := (3 : Int32) < x47) rfl rfl rfl c49 ?_
                                        refine zA_tr (L := [some (zrv x0), some (zrv x1), some (zI x2), some (zI x3), some (zI x4), some (zI x5), some (zI x6), some (zI x7), some (zI x8), some (zI x9), none, some (zI x25), none, none, none, none, none, none, none]) rfl rfl ?_
                                        refine zA_push rfl rfl zkk7 ?_
                                        exact zA_tr (L := [some (zrv x0), some (zrv x1), some (zI x2), some (zI x3), some (zI x4), some (zI x5), some (zI x6), some (zI x7), some (zI x8), some (zI x9), none, some (zI x25), none, none, none, none, none, none, none]) rfl rfl (zmS291_304 ih _ _ _ _ _ _ _ _ _ _ _ _ _ _ _ H)
                                      · refine zA_brF (c := (3 : Int32) < x47) rfl rfl rfl c49 ?_
                                        refine zA_aldn rfl rfl rfl ?_
                                        refine zA_ldn rfl rfl rfl ?_
                                        refine zA_push rfl rfl zkk5 ?_
                                        refine zA_st (st' := [zI (x3 - (1 : Int32)), zrv x1]) rfl rfl rfl rfl ?_
                                        rcases zb_e H with ⟨x51, h50, C, H⟩ | ⟨E, h50, C, H⟩
                                        · refine zA_callV (as := [zrv x1, zI (x3 - (1 : Int32))]) (st' := []) rfl rfl rfl (zrcv_Q e41 c42) rfl (zmE61 _ _) rfl (zmS61 C) ?_
                                          refine zA_push rfl rfl zkk3 ?_
                                          rcases zite_e H with ⟨c52, H⟩ | ⟨c52, H⟩
                                          · refine zA_brF' (c := x51 = (3 : Int32)) rfl rfl rfl c52 ?_
                                            refine zA_aldn rfl rfl rfl ?_
                                            refine zA_ldn rfl rfl rfl ?_
                                            refine zA_push rfl rfl zkk5 ?_
                                            refine zA_st (st' := [zI (x3 - (1 : Int32)), zrv x1]) rfl rfl rfl rfl ?_
                                            rcases zb_e H with ⟨x54, h53, C, H⟩ | ⟨E, h53, C, H⟩
                                            · refine zA_callV (as := [zrv x1, zI (x3 - (1 : Int32))]) (st' := []) rfl rfl rfl (zrcv_Q e41 c42) rfl (zmE63 _ _) rfl (zmS63 C) ?_
                                              refine zA_push rfl rfl zkk36 ?_
                                              rcases zite_e H with ⟨c55, H⟩ | ⟨c55, H⟩
                                              · refine zA_brF' (c := x54 = (14 : Int32)) rfl rfl rfl c55 ?_
                                                refine zA_push rfl rfl zkk5 ?_
                                                refine zA_go rfl rfl ?_
                                                exact zA_tr (L := [some (zrv x0), some (zrv x1), some (zI x2), some (zI x3), some (zI x4), some (zI x5), some (zI x6), some (zI x7), some (zI x8), some (zI x9), none, some (zI x25), none, none, none, none, none, none, none]) rfl rfl (zmS291_304 ih _ _ _ _ _ _ _ _ _ _ _ _ _ _ _ H)
                                              · refine zA_brT' (c := x54 = (14 : Int32)) rfl rfl rfl c55 ?_
                                                refine zA_tr (L := [some (zrv x0), some (zrv x1), some (zI x2), some (zI x3), some (zI x4), some (zI x5), some (zI x6), some (zI x7), some (zI x8), some (zI x9), none, some (zI x25), none, none, none, none, none, none, none]) rfl rfl ?_
                                                refine zA_push rfl rfl zkk7 ?_
                                                exact zA_tr (L := [some (zrv x0), some (zrv x1), some (zI x2), some (zI x3), some (zI x4), some (zI x5), some (zI x6), some (zI x7), some (zI x8), some (zI x9), none, some (zI x25), none, none, none, none, none, none, none]) rfl rfl (zmS291_304 ih _ _ _ _ _ _ _ _ _ _ _ _ _ _ _ H)
                                            · cases H
                                              exact zA_callX (as := [zrv x1, zI (x3 - (1 : Int32))]) (st' := []) rfl rfl (zrcv_Q e41 c42) rfl (zmE63 _ _) rfl rfl rfl (zmS63 C)
                                          · refine zA_brT' (c := x51 = (3 : Int32)) rfl rfl rfl c52 ?_
                                            refine zA_tr (L := [some (zrv x0), some (zrv x1), some (zI x2), some (zI x3), some (zI x4), some (zI x5), some (zI x6), some (zI x7), some (zI x8), some (zI x9), none, some (zI x25), none, none, none, none, none, none, none]) rfl rfl ?_
                                            refine zA_push rfl rfl zkk7 ?_
                                            exact zA_tr (L := [some (zrv x0), some (zrv x1), some (zI x2), some (zI x3), some (zI x4), some (zI x5), some (zI x6), some (zI x7), some (zI x8), some (zI x9), none, some (zI x25), none, none, none, none, none, none, none]) rfl rfl (zmS291_304 ih _ _ _ _ _ _ _ _ _ _ _ _ _ _ _ H)
                                        · cases H
                                          exact zA_callX (as := [zrv x1, zI (x3 - (1 : Int32))]) (st' := []) rfl rfl (zrcv_Q e41 c42) rfl (zmE61 _ _) rfl rfl rfl (zmS61 C)
                                  · cases H
                                    exact zA_callX (as := [zrv x1, zI (x3 - (1 : Int32))]) (st' := []) rfl rfl (zrcv_Q e41 c42) rfl (zmE55 _ _) rfl rfl rfl (zmS55 C)
                              · cases H
                                exact zA_callX (as := [zrv x1, zI (x3 - (1 : Int32))]) (st' := []) rfl rfl (zrcv_Q e41 c42) rfl (zmE61 _ _) rfl rfl rfl (zmS61 C)
                          · refine zA_brT' (c := x27 = (11 : Int32)) rfl rfl rfl c37 ?_
                            refine zA_ld rfl rfl rfl ?_
                            refine zA_push rfl rfl zkk33 ?_
                            rcases zite_e H with ⟨c56, H⟩ | ⟨c56, H⟩
                            · refine zA_brF' (c := x27 = (12 : Int32)) rfl rfl rfl c56 ?_
                              refine zA_ld rfl rfl rfl ?_
                              refine zA_ist2 rfl rfl rfl (zset1 (L' := [some (zrv x0), some (zrv x1), some (zI x2), some (zI x3), some (zI x4), some (zI x5), some (zI x6), some (zI x7), some (zI x8), some (zI x9), none, some (zI x25), some (zI x27), some (zI x29), some (zI x31), some (zI (1 : Int32)), some (zI x5), none, none]) rfl rfl (zpcV rfl rfl)) ?_
                              refine zA_aldn rfl rfl rfl ?_
                              refine zA_ld rfl rfl rfl ?_
                              refine zA_ld rfl rfl rfl ?_
                              obtain ⟨p57, i58, e59, c60, H⟩ := zob_e H
                              rcases zb_e H with ⟨x62, h61, C, H⟩ | ⟨E, h61, C, H⟩
                              · refine zA_callV (as := [zrv x1, zI x29, zI x5]) (st' := []) rfl rfl rfl (zrcv_Q e59 c60) rfl (zmE88 _ _ _) rfl (zmS88 C) ?_
                                refine zA_ist2 rfl rfl rfl (zset1 (L' := [some (zrv x0), some (zrv x1), some (zI x2), some (zI x3), some (zI x4), some (zI x5), some (zI x6), some (zI x7), some (zI x8), some (zI x9), none, some (zI x25), some (zI x27), some (zI x29), some (zI x31), some (zI (1 : Int32)), some (zI x5), some (zI x62), none]) rfl rfl (zpcV rfl rfl)) ?_
                                refine zA_ld rfl rfl rfl ?_
                                rcases zite_e H with ⟨c63, H⟩ | ⟨c63, H⟩
                                · refine zA_brT (c := x62 < 0) rfl rfl rfl c63 ?_
                                  refine zA_tr (L := [some (zrv x0), some (zrv x1), some (zI x2), some (zI x3), some (zI x4), some (zI x5), some (zI x6), some (zI x7), some (zI x8), some (zI x9), none, some (zI x25), none, none, none, some (zI (1 : Int32)), none, none, none]) rfl rfl ?_
                                  refine zA_go rfl rfl ?_
                                  exact zA_tr (L := [some (zrv x0), some (zrv x1), some (zI x2), some (zI x3), some (zI x4), some (zI x5), some (zI x6), some (zI x7), some (zI x8), some (zI x9), none, some (zI x25), none, none, none, some (zI (1 : Int32)), none, none, none]) rfl rfl (zmS291_594 ih _ _ _ _ _ _ _ _ _ _ _ _ _ _ _ H)
                                · refine zA_brF (c := x62 < 0) rfl rfl rfl c63 ?_
                                  refine zA_ld rfl rfl rfl ?_
                                  refine zA_push rfl rfl zkk39 ?_
                                  rcases zite_e H with ⟨c64, H⟩ | ⟨c64, H⟩
                                  · refine zA_brT (c := (40 : Int32) ≤ x5) rfl rfl rfl c64 ?_
                                    refine zA_tr (L := [some (zrv x0), some (zrv x1), some (zI x2), some (zI x3), some (zI x4), some (zI x5), some (zI x6), some (zI x7), some (zI x8), some (zI x9), none, some (zI x25), none, none, none, some (zI (1 : Int32)), none, none, none]) rfl rfl ?_
                                    refine zA_go rfl rfl ?_
                                    exact zA_tr (L := [some (zrv x0), some (zrv x1), some (zI x2), some (zI x3), some (zI x4), some (zI x5), some (zI x6), some (zI x7), some (zI x8), some (zI x9), none, some (zI x25), none, none, none, some (zI (1 : Int32)), none, none, none]) rfl rfl (zmS291_594 ih _ _ _ _ _ _ _ _ _ _ _ _ _ _ _ H)
                                  · refine zA_brF (c := (40 : Int32) ≤ x5) rfl rfl rfl c64 ?_
                                    refine zA_aldn rfl rfl rfl ?_
                                    refine zA_ld rfl rfl rfl ?_
                                    refine zA_ld rfl rfl rfl ?_
                                    rcases zb_e H with ⟨x66, h65, C, H⟩ | ⟨E, h65, C, H⟩
                                    · refine zA_callV (as := [zrv x1, zI x29, zI x5]) (st' := []) rfl rfl rfl (zrcv_Q e59 c60) rfl (zmE91 _ _ _) rfl (zmS91 C) ?_
                                      refine zA_ld rfl rfl rfl ?_
                                      rcases zite_e H with ⟨c67, H⟩ | ⟨c67, H⟩
                                      · refine zA_brF' (c := x66 = x62) rfl rfl rfl c67 ?_
                                        refine zA_aldn rfl rfl rfl ?_
                                        refine zA_ld rfl rfl rfl ?_
                                        refine zA_ld rfl rfl rfl ?_
                                        rcases zb_e H with ⟨x69, h68, C, H⟩ | ⟨E, h68, C, H⟩
                                        · refine zA_callV (as := [zrv x1, zI x29, zI x5]) (st' := []) rfl rfl rfl (zrcv_Q e59 c60) rfl (zmE88 _ _ _) rfl (zmS88 C) ?_
                                          refine zA_ld rfl rfl rfl ?_
                                          rcases zite_e H with ⟨c70, H⟩ | ⟨c70, H⟩
                                          · refine zA_brF' (c := x69 = x62) rfl rfl rfl c70 ?_
                                            refine zA_aldn rfl rfl rfl ?_
                                            refine zA_ld rfl rfl rfl ?_
                                            rcases zb_e H with ⟨x72, h71, C, H⟩ | ⟨E, h71, C, H⟩
                                            · refine zA_callV (as := [zrv x1, zI x62]) (st' := []) rfl rfl rfl (zrcv_Q e59 c60) rfl (zmE43 _ _) rfl (zmS43 C) ?_
                                              rcases zite_e H with ⟨c73, H⟩ | ⟨c73, H⟩
                                              · refine zA_brT (c := x72 = 0) rfl rfl rfl c73 ?_
                                                refine zA_tr (L := [some (zrv x0), some (zrv x1), some (zI x2), some (zI x3), some (zI x4), some (zI x5), some (zI x6), some (zI x7), some (zI x8), some (zI x9), none, some (zI x25), none, some (zI x29), none, none, some (zI x5), some (zI x62), none]) rfl rfl ?_
                                                refine zA_push rfl rfl zkk7 ?_
                                                exact zA_tr (L := [some (zrv x0), some (zrv x1), some (zI x2), some (zI x3), some (zI x4), some (zI x5), some (zI x6), some (zI x7), some (zI x8), some (zI x9), none, some (zI x25), none, some (zI x29), none, none, some (zI x5), some (zI x62), none]) rfl rfl (zmS291_340 ih _ _ _ _ _ _ _ _ _ _ _ _ _ _ _ _ _ _ H)
                                              · refine zA_brF (c := x72 = 0) rfl rfl rfl c73 ?_
                                                refine zA_push rfl rfl zkk5 ?_
                                                refine zA_go rfl rfl ?_
                                                exact zA_tr (L := [some (zrv x0), some (zrv x1), some (zI x2), some (zI x3), some (zI x4), some (zI x5), some (zI x6), some (zI x7), some (zI x8), some (zI x9), none, some (zI x25), none, some (zI x29), none, none, some (zI x5), some (zI x62), none]) rfl rfl (zmS291_340 ih _ _ _ _ _ _ _ _ _ _ _ _ _ _ _ _ _ _ H)
                                            · cases H
                                              exact zA_callX (as := [zrv x1, zI x62]) (st' := []) rfl rfl (zrcv_Q e59 c60) rfl (zmE43 _ _) rfl rfl rfl (zmS43 C)
                                          · refine zA_brT' (c := x69 = x62) rfl rfl rfl c70 ?_
                                            refine zA_tr (L := [some (zrv x0), some (zrv x1), some (zI x2), some (zI x3), some (zI x4), some (zI x5), some (zI x6), some (zI x7), some (zI x8), some (zI x9), none, some (zI x25), none, some (zI x29), none, none, some (zI x5), some (zI x62), none]) rfl rfl ?_
                                            refine zA_push rfl rfl zkk7 ?_
                                            exact zA_tr (L := [some (zrv x0), some (zrv x1), some (zI x2), some (zI x3), some (zI x4), some (zI x5), some (zI x6), some (zI x7), some (zI x8), some (zI x9), none, some (zI x25), none, some (zI x29), none, none, some (zI x5), some (zI x62), none]) rfl rfl (zmS291_340 ih _ _ _ _ _ _ _ _ _ _ _ _ _ _ _ _ _ _ H)
                                        · cases H
                                          exact zA_callX (as := [zrv x1, zI x29, zI x5]) (st' := []) rfl rfl (zrcv_Q e59 c60) rfl (zmE88 _ _ _) rfl rfl rfl (zmS88 C)
                                      · refine zA_brT' (c := x66 = x62) rfl rfl rfl c67 ?_
                                        refine zA_tr (L := [some (zrv x0), some (zrv x1), some (zI x2), some (zI x3), some (zI x4), some (zI x5), some (zI x6), some (zI x7), some (zI x8), some (zI x9), none, some (zI x25), none, some (zI x29), none, none, some (zI x5), some (zI x62), none]) rfl rfl ?_
                                        refine zA_push rfl rfl zkk7 ?_
                                        exact zA_tr (L := [some (zrv x0), some (zrv x1), some (zI x2), some (zI x3), some (zI x4), some (zI x5), some (zI x6), some (zI x7), some (zI x8), some (zI x9), none, some (zI x25), none, some (zI x29), none, none, some (zI x5), some (zI x62), none]) rfl rfl (zmS291_340 ih _ _ _ _ _ _ _ _ _ _ _ _ _ _ _ _ _ _ H)
                                    · cases H
                                      exact zA_callX (as := [zrv x1, zI x29, zI x5]) (st' := []) rfl rfl (zrcv_Q e59 c60) rfl (zmE91 _ _ _) rfl rfl rfl (zmS91 C)
                              · cases H
                                exact zA_callX (as := [zrv x1, zI x29, zI x5]) (st' := []) rfl rfl (zrcv_Q e59 c60) rfl (zmE88 _ _ _) rfl rfl rfl (zmS88 C)
                            · refine zA_brT' (c := x27 = (12 : Int32)) rfl rfl rfl c56 ?_
                              refine zA_ld rfl rfl rfl ?_
                              refine zA_push rfl rfl zkk35 ?_
                              rcases zite_e H with ⟨c74, H⟩ | ⟨c74, H⟩
                              · refine zA_brF' (c := x27 = (13 : Int32)) rfl rfl rfl c74 ?_
                                refine zA_aldn rfl rfl rfl ?_
                                refine zA_ld rfl rfl rfl ?_
                                refine zA_ld rfl rfl rfl ?_
                                obtain ⟨p75, i76, e77, c78, H⟩ := zob_e H
                                rcases zb_e H with ⟨x80, h79, C, H⟩ | ⟨E, h79, C, H⟩
                                · refine zA_callV (as := [zrv x1, zI x29, zI x31]) (st' := []) rfl rfl rfl (zrcv_Q e77 c78) rfl (zmE85 _ _ _) rfl (zmS85 C) ?_
                                  rcases zite_e H with ⟨c81, H⟩ | ⟨c81, H⟩
                                  · refine zA_brT (c := x80 < 0) rfl rfl rfl c81 ?_
                                    exact zA_tr (L := [some (zrv x0), some (zrv x1), some (zI x2), some (zI x3), some (zI x4), some (zI x5), some (zI x6), some (zI x7), some (zI x8), some (zI x9), none, some (zI x25), none, none, none, some (zI (1 : Int32)), none, none, none]) rfl rfl (zmS291_594 ih _ _ _ _ _ _ _ _ _ _ _ _ _ _ _ H)
                                  · refine zA_brF (c := x80 < 0) rfl rfl rfl c81 ?_
                                    refine zA_aldn rfl rfl rfl ?_
                                    refine zA_ld rfl rfl rfl ?_
                                    refine zA_ld rfl rfl rfl ?_
                                    rcases zb_e H with ⟨x83, h82, C, H⟩ | ⟨E, h82, C, H⟩
                                    · refine zA_callV (as := [zrv x1, zI x29, zI x31]) (st' := []) rfl rfl rfl (zrcv_Q e77 c78) rfl (zmE86 _ _ _) rfl (zmS86 C) ?_
                                      rcases zite_e H with ⟨c84, H⟩ | ⟨c84, H⟩
                                      · refine zA_brT (c := x83 < 0) rfl rfl rfl c84 ?_
                                        exact zA_tr (L := [some (zrv x0), some (zrv x1), some (zI x2), some (zI x3), some (zI x4), some (zI x5), some (zI x6), some (zI x7), some (zI x8), some (zI x9), none, some (zI x25), none, none, none, some (zI (1 : Int32)), none, none, none]) rfl rfl (zmS291_594 ih _ _ _ _ _ _ _ _ _ _ _ _ _ _ _ H)
                                      · refine zA_brF (c := x83 < 0) rfl rfl rfl c84 ?_
                                        refine zA_ld rfl rfl rfl ?_
                                        refine zA_push rfl rfl zkk46 ?_
                                        rcases zite_e H with ⟨c85, H⟩ | ⟨c85, H⟩
                                        · refine zA_brT (c := (500 : Int32) ≤ x6) rfl rfl rfl c85 ?_
                                          exact zA_tr (L := [some (zrv x0), some (zrv x1), some (zI x2), some (zI x3), some (zI x4), some (zI x5), some (zI x6), some (zI x7), some (zI x8), some (zI x9), none, some (zI x25), none, none, none, some (zI (1 : Int32)), none, none, none]) rfl rfl (zmS291_594 ih _ _ _ _ _ _ _ _ _ _ _ _ _ _ _ H)
                                        · refine zA_brF (c := (500 : Int32) ≤ x6) rfl rfl rfl c85 ?_
                                          refine zA_push rfl rfl zkk7 ?_
                                          refine zA_ist2 rfl rfl rfl (zset1 (L' := [some (zrv x0), some (zrv x1), some (zI x2), some (zI x3), some (zI x4), some (zI x5), some (zI x6), some (zI x7), some (zI x8), some (zI x9), none, some (zI x25), some (zI x27), some (zI x29), some (zI x31), some (zI (1 : Int32)), some (zI (0 : Int32)), none, none]) rfl rfl (zpcV rfl rfl)) ?_
                                          exact zA_tr (L := [some (zrv x0), some (zrv x1), some (zI x2), some (zI x3), some (zI x4), some (zI x5), some (zI x6), some (zI x7), some (zI x8), some (zI x9), none, some (zI x25), none, some (zI x29), some (zI x31), some (zI (1 : Int32)), some (zI (0 : Int32)), none, none]) rfl rfl (zmS291_379 (zmS291_416 ih) zN0 _ _ _ _ _ _ _ _ _ _ _ _ _ _ _ _ _ _ H)
                                    · cases H
                                      exact zA_callX (as := [zrv x1, zI x29, zI x31]) (st' := []) rfl rfl (zrcv_Q e77 c78) rfl (zmE86 _ _ _) rfl rfl rfl (zmS86 C)
                                · cases H
                                  exact zA_callX (as := [zrv x1, zI x29, zI x31]) (st' := []) rfl rfl (zrcv_Q e77 c78) rfl (zmE85 _ _ _) rfl rfl rfl (zmS85 C)
                              · refine zA_brT' (c := x27 = (13 : Int32)) rfl rfl rfl c74 ?_
                                refine zA_ld rfl rfl rfl ?_
                                refine zA_push rfl rfl zkk36 ?_
                                rcases zite_e H with ⟨c86, H⟩ | ⟨c86, H⟩
                                · refine zA_brF' (c := x27 = (14 : Int32)) rfl rfl rfl c86 ?_
                                  refine zA_aldn rfl rfl rfl ?_
                                  refine zA_ld rfl rfl rfl ?_
                                  obtain ⟨p87, i88, e89, c90, H⟩ := zob_e H
                                  rcases zb_e H with ⟨x92, h91, C, H⟩ | ⟨E, h91, C, H⟩
                                  · refine zA_callV (as := [zrv x1, zI x29]) (st' := []) rfl rfl rfl (zrcv_Q e89 c90) rfl (zmE106 _ _) rfl (zmS106 C) ?_
                                    refine zA_ist2 rfl rfl rfl (zset1 (L' := [some (zrv x0), some (zrv x1), some (zI x2), some (zI x3), some (zI x4), some (zI x5), some (zI x6), some (zI x7), some (zI x8), some (zI x9), none, some (zI x25), some (zI x27), some (zI x29), some (zI x31), some (zI (1 : Int32)), some (zI x92), none, none]) rfl rfl (zpcV rfl rfl)) ?_
                                    refine zA_aldn rfl rfl rfl ?_
                                    refine zA_ld rfl rfl rfl ?_
                                    rcases zb_e H with ⟨x94, h93, C, H⟩ | ⟨E, h93, C, H⟩
                                    · refine zA_callV (as := [zrv x1, zI x29]) (st' := []) rfl rfl rfl (zrcv_Q e89 c90) rfl (zmE106 _ _) rfl (zmS106 C) ?_
                                      refine zA_ld rfl rfl rfl ?_
                                      rcases zite_e H with ⟨c95, H⟩ | ⟨c95, H⟩
                                      · refine zA_brT (c := x94 = x92) rfl rfl rfl c95 ?_
                                        refine zA_tr (L := [some (zrv x0), some (zrv x1), some (zI x2), some (zI x3), some (zI x4), some (zI x5), some (zI x6), some (zI x7), some (zI x8), some (zI x9), none, some (zI x25), none, some (zI x29), none, none, none, none, none]) rfl rfl ?_
                                        refine zA_push rfl rfl zkk7 ?_
                                        exact zA_tr (L := [some (zrv x0), some (zrv x1), some (zI x2), some (zI x3), some (zI x4), some (zI x5), some (zI x6), some (zI x7), some (zI x8), some (zI x9), none, some (zI x25), none, some (zI x29), none, none, none, none, none]) rfl rfl (zmS291_433 ih _ _ _ _ _ _ _ _ _ _ _ _ _ _ _ _ H)
                                      · refine zA_brF (c := x94 = x92) rfl rfl rfl c95 ?_
                                        refine zA_push rfl rfl zkk5 ?_
                                        refine zA_go rfl rfl ?_
                                        exact zA_tr (L := [some (zrv x0), some (zrv x1), some (zI x2), some (zI x3), some (zI x4), some (zI x5), some (zI x6), some (zI x7), some (zI x8), some (zI x9), none, some (zI x25), none, some (zI x29), none, none, none, none, none]) rfl rfl (zmS291_433 ih _ _ _ _ _ _ _ _ _ _ _ _ _ _ _ _ H)
                                    · cases H
                                      exact zA_callX (as := [zrv x1, zI x29]) (st' := []) rfl rfl (zrcv_Q e89 c90) rfl (zmE106 _ _) rfl rfl rfl (zmS106 C)
                                  · cases H
                                    exact zA_callX (as := [zrv x1, zI x29]) (st' := []) rfl rfl (zrcv_Q e89 c90) rfl (zmE106 _ _) rfl rfl rfl (zmS106 C)
                                · refine zA_brT' (c := x27 = (14 : Int32)) rfl rfl rfl c86 ?_
                                  refine zA_tr (L := [some (zrv x0), some (zrv x1), some (zI x2), some (zI x3), some (zI x4), some (zI x5), some (zI x6), some (zI x7), some (zI x8), some (zI x9), none, some (zI x25), some (zI x27), none, some (zI x31), some (zI (1 : Int32)), none, none, none]) rfl rfl ?_
                                  refine zA_ld rfl rfl rfl ?_
                                  refine zA_push rfl rfl zkk49 ?_
                                  rcases zite_e H with ⟨c96, H⟩ | ⟨c96, H⟩
                                  · refine zA_brF' (c := x27 = (15 : Int32)) rfl rfl rfl c96 ?_
                                    refine zA_aldn rfl rfl rfl ?_
                                    refine zA_ld rfl rfl rfl ?_
                                    obtain ⟨p97, i98, e99, c100, H⟩ := zob_e H
                                    rcases zb_e H with ⟨x102, h101, C, H⟩ | ⟨E, h101, C, H⟩
                                    · refine zA_callV (as := [zrv x1, zI x31]) (st' := []) rfl rfl rfl (zrcv_Q e99 c100) rfl (zmE111 _ _) rfl (zmS111 C) ?_
                                      refine zA_ist2 rfl rfl rfl (zset1 (L' := [some (zrv x0), some (zrv x1), some (zI x2), some (zI x3), some (zI x4), some (zI x5), some (zI x6), some (zI x7), some (zI x8), some (zI x9), none, some (zI x25), some (zI x27), none, some (zI x31), some (zI (1 : Int32)), some (zI x102), none, none]) rfl rfl (zpcV rfl rfl)) ?_
                                      refine zA_aldn rfl rfl rfl ?_
                                      refine zA_ld rfl rfl rfl ?_
                                      refine zA_ld rfl rfl rfl ?_
                                      refine zA_push rfl rfl zkk3 ?_
                                      refine zA_st (st' := [zI (x25 >>> ((3 : Int32) &&& 31)), zI x31, zrv x1]) rfl rfl rfl rfl ?_
                                      refine zA_push rfl rfl zkk3 ?_
                                      rcases zb_e H with ⟨x104, h103, C, H⟩ | ⟨E, h103, C, H⟩
                                      · refine zA_callV (as := [zI (x25 >>> ((3 : Int32) &&& 31)), zI (3 : Int32)]) (st' := [zI x31, zrv x1]) rfl rfl rfl rfl rfl (zmE242 _ _) rfl (zmS242 C) ?_
                                        rcases zb_e H with ⟨x106, h105, C, H⟩ | ⟨E, h105, C, H⟩
                                        · refine zA_callV (as := [zrv x1, zI x31, zI x104]) (st' := []) rfl rfl rfl (zrcv_Q e99 c100) rfl (zmE109 _ _ _) rfl (zmS109 C) ?_
                                          refine zA_ist2 rfl rfl rfl (zset1 (L' := [some (zrv x0), some (zrv x1), some (zI x2), some (zI x3), some (zI x4), some (zI x5), some (zI x6), some (zI x7), some (zI x8), some (zI x9), none, some (zI x25), some (zI x27), none, some (zI x31), some (zI (1 : Int32)), some (zI x102), some (zI x106), none]) rfl rfl (zpcV rfl rfl)) ?_
                                          refine zA_aldn rfl rfl rfl ?_
                                          refine zA_ld rfl rfl rfl ?_
                                          rcases zb_e H with ⟨x108, h107, C, H⟩ | ⟨E, h107, C, H⟩
                                          · refine zA_callV (as := [zrv x1, zI x31]) (st' := []) rfl rfl rfl (zrcv_Q e99 c100) rfl (zmE111 _ _) rfl (zmS111 C) ?_
                                            refine zA_ld rfl rfl rfl ?_
                                            refine zA_ld rfl rfl rfl ?_
                                            rcases zite_e H with ⟨c109, H⟩ | ⟨c109, H⟩
                                            · refine zA_brT (c := x106 = 0) rfl rfl rfl c109 ?_
                                              refine zA_tr (L := [some (zrv x0), some (zrv x1), some (zI x2), some (zI x3), some (zI x4), some (zI x5), some (zI x6), some (zI x7), some (zI x8), some (zI x9), none, some (zI x25), none, none, some (zI x31), none, none, none, none]) rfl rfl ?_
                                              refine zA_push rfl rfl zkk9 ?_
                                              exact zA_tr (L := [some (zrv x0), some (zrv x1), some (zI x2), some (zI x3), some (zI x4), some (zI x5), some (zI x6), some (zI x7), some (zI x8), some (zI x9), none, some (zI x25), none, none, some (zI x31), none, none, none, none]) rfl rfl (zmS291_470 ih _ _ _ _ _ _ _ _ _ _ _ _ _ _ _ _ _ _ H)
                                            · refine zA_brF (c := x106 = 0) rfl rfl rfl c109 ?_
                                              refine zA_push rfl rfl zkk50 ?_
                                              refine zA_go rfl rfl ?_
                                              exact zA_tr (L := [some (zrv x0), some (zrv x1), some (zI x2), some (zI x3), some (zI x4), some (zI x5), some (zI x6), some (zI x7), some (zI x8), some (zI x9), none, some (zI x25), none, none, some (zI x31), none, none, none, none]) rfl rfl (zmS291_470 ih _ _ _ _ _ _ _ _ _ _ _ _ _ _ _ _ _ _ H)
                                          · cases H
                                            exact zA_callX (as := [zrv x1, zI x31]) (st' := []) rfl rfl (zrcv_Q e99 c100) rfl (zmE111 _ _) rfl rfl rfl (zmS111 C)
                                        · cases H
                                          exact zA_callX (as := [zrv x1, zI x31, zI x104]) (st' := []) rfl rfl (zrcv_Q e99 c100) rfl (zmE109 _ _ _) rfl rfl rfl (zmS109 C)
                                      · cases H
                                        exact zA_callX (as := [zI (x25 >>> ((3 : Int32) &&& 31)), zI (3 : Int32)]) (st' := [zI x31, zrv x1]) rfl rfl rfl rfl (zmE242 _ _) rfl rfl rfl (zmS242 C)
                                    · cases H
                                      exact zA_callX (as := [zrv x1, zI x31]) (st' := []) rfl rfl (zrcv_Q e99 c100) rfl (zmE111 _ _) rfl rfl rfl (zmS111 C)
                                  · refine zA_brT' (c := x27 = (15 : Int32)) rfl rfl rfl c96 ?_
                                    refine zA_ld rfl rfl rfl ?_
                                    refine zA_push rfl rfl zkk29 ?_
                                    rcases zite_e H with ⟨c110, H⟩ | ⟨c110, H⟩
                                    · refine zA_brF' (c := x27 = (16 : Int32)) rfl rfl rfl c110 ?_
                                      refine zA_aldn rfl rfl rfl ?_
                                      obtain ⟨p111, i112, e113, c114, H⟩ := zob_e H
                                      rcases zb_e H with ⟨x116, h115, C, H⟩ | ⟨E, h115, C, H⟩
                                      · refine zA_callV (as := [zrv x1]) (st' := []) rfl rfl rfl (zrcv_Q e113 c114) rfl (zmE83 _) rfl (zmS83 C) ?_
                                        rcases zite_e H with ⟨c117, H⟩ | ⟨c117, H⟩
                                        · refine zA_brT (c := x116 = 0) rfl rfl rfl c117 ?_
                                          refine zA_tr (L := [some (zrv x0), some (zrv x1), some (zI x2), some (zI x3), some (zI x4), some (zI x5), some (zI x6), some (zI x7), some (zI x8), some (zI x9), none, some (zI x25), none, none, none, some (zI (1 : Int32)), none, none, none]) rfl rfl ?_
                                          refine zA_aldn rfl rfl rfl ?_
                                          refine zA_ld rfl rfl rfl ?_
                                          refine zA_push rfl rfl zkk9 ?_
                                          refine zA_st (st' := [zI (x25 >>> ((4 : Int32) &&& 31)), zrv x1]) rfl rfl rfl rfl ?_
                                          refine zA_push rfl rfl zkk15 ?_
                                          rcases zb_e H with ⟨x119, h118, C, H⟩ | ⟨E, h118, C, H⟩
                                          · refine zA_callV (as := [zI (x25 >>> ((4 : Int32) &&& 31)), zI (2 : Int32)]) (st' := [zrv x1]) rfl rfl rfl rfl rfl (zmE242 _ _) rfl (zmS242 C) ?_
                                            rcases zite_e H with ⟨c120, H⟩ | ⟨c120, H⟩
                                            · refine zA_brF' (c := x119 = 0) rfl rfl rfl c120 ?_
                                              refine zA_push rfl rfl zkk5 ?_
                                              refine zA_go rfl rfl ?_
                                              exact zA_tr (L := [some (zrv x0), some (zrv x1), some (zI x2), some (zI x3), some (zI x4), some (zI x5), some (zI x6), some (zI x7), some (zI x8), some (zI x9), none, some (zI x25), none, none, none, some (zI (1 : Int32)), none, none, none]) rfl rfl (zmS291_521 ih _ _ _ _ _ _ _ _ _ _ _ _ _ _ _ _ _ H)
                                            · refine zA_brT' (c := x119 = 0) rfl rfl rfl c120 ?_
                                              refine zA_push rfl rfl zkk7 ?_
                                              exact zA_tr (L := [some (zrv x0), some (zrv x1), some (zI x2), some (zI x3), some (zI x4), some (zI x5), some (zI x6), some (zI x7), some (zI x8), some (zI x9), none, some (zI x25), none, none, none, some (zI (1 : Int32)), none, none, none]) rfl rfl (zmS291_521 ih _ _ _ _ _ _ _ _ _ _ _ _ _ _ _ _ _ H)
                                          · cases H
                                            exact zA_callX (as := [zI (x25 >>> ((4 : Int32) &&& 31)), zI (2 : Int32)]) (st' := [zrv x1]) rfl rfl rfl rfl (zmE242 _ _) rfl rfl rfl (zmS242 C)
                                        · refine zA_brF (c := x116 = 0) rfl rfl rfl c117 ?_
                                          refine zA_aldn rfl rfl rfl ?_
                                          rcases zb_e H with ⟨x122, h121, C, H⟩ | ⟨E, h121, C, H⟩
                                          · refine zA_callV (as := [zrv x1]) (st' := []) rfl rfl rfl (zrcv_Q e113 c114) rfl (zmE82 _) rfl (zmS82 C) ?_
                                            rcases zite_e H with ⟨c123, H⟩ | ⟨c123, H⟩
                                            · refine zA_brT (c := x122 < 0) rfl rfl rfl c123 ?_
                                              refine zA_tr (L := [some (zrv x0), some (zrv x1), some (zI x2), some (zI x3), some (zI x4), some (zI x5), some (zI x6), some (zI x7), some (zI x8), some (zI x9), none, some (zI x25), none, none, none, none, none, none, none]) rfl rfl ?_
                                              refine zA_push rfl rfl zkk7 ?_
                                              exact zA_tr (L := [some (zrv x0), some (zrv x1), some (zI x2), some (zI x3), some (zI x4), some (zI x5), some (zI x6), some (zI x7), some (zI x8), some (zI x9), none, some (zI x25), none, none, none, none, none, none, none]) rfl rfl (zmS291_509 ih _ _ _ _ _ _ _ _ _ _ _ _ _ _ _ H)
                                            · refine zA_brF (c := x122 < 0) rfl rfl rfl c123 ?_
                                              refine zA_aldn rfl rfl rfl ?_
                                              rcases zb_e H with ⟨x125, h124, C, H⟩ | ⟨E, h124, C, H⟩
                                              · refine zA_callV (as := [zrv x1]) (st' := []) rfl rfl rfl (zrcv_Q e113 c114) rfl (zmE83 _) rfl (zmS83 C) ?_
                                                rcases zite_e H with ⟨c126, H⟩ | ⟨c126, H⟩
                                                · refine zA_brF' (c := x125 = 0) rfl rfl rfl c126 ?_
                                                  refine zA_push rfl rfl zkk5 ?_
                                                  refine zA_go rfl rfl ?_
                                                  exact zA_tr (L := [some (zrv x0), some (zrv x1), some (zI x2), some (zI x3), some (zI x4), some (zI x5), some (zI x6), some (zI x7), some (zI x8), some (zI x9), none, some (zI x25), none, none, none, none, none, none, none]) rfl rfl (zmS291_509 ih _ _ _ _ _ _ _ _ _ _ _ _ _ _ _ H)
                                                · refine zA_brT' (c := x125 = 0) rfl rfl rfl c126 ?_
                                                  refine zA_tr (L := [some (zrv x0), some (zrv x1), some (zI x2), some (zI x3), some (zI x4), some (zI x5), some (zI x6), some (zI x7), some (zI x8), some (zI x9), none, some (zI x25), none, none, none, none, none, none, none]) rfl rfl ?_
                                                  refine zA_push rfl rfl zkk7 ?_
                                                  exact zA_tr (L := [some (zrv x0), some (zrv x1), some (zI x2), some (zI x3), some (zI x4), some (zI x5), some (zI x6), some (zI x7), some (zI x8), some (zI x9), none, some (zI x25), none, none, none, none, none, none, none]) rfl rfl (zmS291_509 ih _ _ _ _ _ _ _ _ _ _ _ _ _ _ _ H)
                                              · cases H
                                                exact zA_callX (as := [zrv x1]) (st' := []) rfl rfl (zrcv_Q e113 c114) rfl (zmE83 _) rfl rfl rfl (zmS83 C)
                                          · cases H
                                            exact zA_callX (as := [zrv x1]) (st' := []) rfl rfl (zrcv_Q e113 c114) rfl (zmE82 _) rfl rfl rfl (zmS82 C)
                                      · cases H
                                        exact zA_callX (as := [zrv x1]) (st' := []) rfl rfl (zrcv_Q e113 c114) rfl (zmE83 _) rfl rfl rfl (zmS83 C)
                                    · refine zA_brT' (c := x27 = (16 : Int32)) rfl rfl rfl c110 ?_
                                      refine zA_ld rfl rfl rfl ?_
                                      refine zA_push rfl rfl zkk1 ?_
                                      rcases zite_e H with ⟨c127, H⟩ | ⟨c127, H⟩
                                      · refine zA_brF' (c := x27 = (17 : Int32)) rfl rfl rfl c127 ?_
                                        refine zA_ldn rfl rfl rfl ?_
                                        rcases zite_e H with ⟨c128, H⟩ | ⟨c128, H⟩
                                        · refine zA_brT (c := x3 ≤ 0) rfl rfl rfl c128 ?_
                                          exact zA_tr (L := [some (zrv x0), some (zrv x1), some (zI x2), some (zI x3), some (zI x4), some (zI x5), some (zI x6), some (zI x7), some (zI x8), some (zI x9), none, some (zI x25), none, none, none, some (zI (1 : Int32)), none, none, none]) rfl rfl (zmS291_594 ih _ _ _ _ _ _ _ _ _ _ _ _ _ _ _ H)
                                        · refine zA_brF (c := x3 ≤ 0) rfl rfl rfl c128 ?_
                                          refine zA_aldn rfl rfl rfl ?_
                                          refine zA_ldn rfl rfl rfl ?_
                                          refine zA_push rfl rfl zkk5 ?_
                                          refine zA_st (st' := [zI (x3 - (1 : Int32)), zrv x1]) rfl rfl rfl rfl ?_
                                          obtain ⟨p129, i130, e131, c132, H⟩ := zob_e H
                                          rcases zb_e H with ⟨x134, h133, C, H⟩ | ⟨E, h133, C, H⟩
                                          · refine zA_callV (as := [zrv x1, zI (x3 - (1 : Int32))]) (st' := []) rfl rfl rfl (zrcv_Q e131 c132) rfl (zmE61 _ _) rfl (zmS61 C) ?_
                                            refine zA_push rfl rfl zkk15 ?_
                                            rcases zite_e H with ⟨c135, H⟩ | ⟨c135, H⟩
                                            · refine zA_brT (c := (2 : Int32) ≤ x134) rfl rfl rfl c135 ?_
                                              exact zA_tr (L := [some (zrv x0), some (zrv x1), some (zI x2), some (zI x3), some (zI x4), some (zI x5), some (zI x6), some (zI x7), some (zI x8), some (zI x9), none, some (zI x25), none, none, none, some (zI (1 : Int32)), none, none, none]) rfl rfl (zmS291_594 ih _ _ _ _ _ _ _ _ _ _ _ _ _ _ _ H)
                                            · refine zA_brF (c := (2 : Int32) ≤ x134) rfl rfl rfl c135 ?_
                                              refine zA_aldn rfl rfl rfl ?_
                                              refine zA_ldn rfl rfl rfl ?_
                                              refine zA_push rfl rfl zkk5 ?_
                                              refine zA_st (st' := [zI (x3 - (1 : Int32)), zrv x1]) rfl rfl rfl rfl ?_
                                              rcases zb_e H with ⟨x137, h136, C, H⟩ | ⟨E, h136, C, H⟩
                                              · refine zA_callV (as := [zrv x1, zI (x3 - (1 : Int32))]) (st' := []) rfl rfl rfl (zrcv_Q e131 c132) rfl (zmE63 _ _) rfl (zmS63 C) ?_
                                                refine zA_ist2 rfl rfl rfl (zset1 (L' := [some (zrv x0), some (zrv x1), some (zI x2), some (zI x3), some (zI x4), some (zI x5), some (zI x6), some (zI x7), some (zI x8), some (zI x9), none, some (zI x25), some (zI x27), none, some (zI x31), some (zI (1 : Int32)), some (zI x137), none, none]) rfl rfl (zpcV rfl rfl)) ?_
                                                refine zA_ld rfl rfl rfl ?_
                                                rcases zite_e H with ⟨c138, H⟩ | ⟨c138, H⟩
                                                · refine zA_brT (c := x137 < 0) rfl rfl rfl c138 ?_
                                                  refine zA_tr (L := [some (zrv x0), some (zrv x1), some (zI x2), some (zI x3), some (zI x4), some (zI x5), some (zI x6), some (zI x7), some (zI x8), some (zI x9), none, some (zI x25), none, none, none, none, none, none, none]) rfl rfl ?_
                                                  refine zA_push rfl rfl zkk7 ?_
                                                  exact zA_tr (L := [some (zrv x0), some (zrv x1), some (zI x2), some (zI x3), some (zI x4), some (zI x5), some (zI x6), some (zI x7), some (zI x8), some (zI x9), none, some (zI x25), none, none, none, none, none, none, none]) rfl rfl (zmS291_558 ih _ _ _ _ _ _ _ _ _ _ _ _ _ _ _ H)
                                                · refine zA_brF (c := x137 < 0) rfl rfl rfl c138 ?_
                                                  refine zA_ld rfl rfl rfl ?_
                                                  refine zA_push rfl rfl zkk36 ?_
                                                  rcases zite_e H with ⟨c139, H⟩ | ⟨c139, H⟩
                                                  · refine zA_brT (c := (14 : Int32) ≤ x137) rfl rfl rfl c139 ?_
                                                    refine zA_tr (L := [some (zrv x0), some (zrv x1), some (zI x2), some (zI x3), some (zI x4), some (zI x5), some (zI x6), some (zI x7), some (zI x8), some (zI x9), none, some (zI x25), none, none, none, none, none, none, none]) rfl rfl ?_
                                                    refine zA_push rfl rfl zkk7 ?_
                                                    exact zA_tr (L := [some (zrv x0), some (zrv x1), some (zI x2), some (zI x3), some (zI x4), some (zI x5), some (zI x6), some (zI x7), some (zI x8), some (zI x9), none, some (zI x25), none, none, none, none, none, none, none]) rfl rfl (zmS291_558 ih _ _ _ _ _ _ _ _ _ _ _ _ _ _ _ H)
                                                  · refine zA_brF (c := (14 : Int32) ≤ x137) rfl rfl rfl c139 ?_
                                                    refine zA_ld rfl rfl rfl ?_
                                                    refine zA_push rfl rfl zkk35 ?_
                                                    rcases zite_e H with ⟨c140, H⟩ | ⟨c140, H⟩
                                                    · refine zA_brF' (c := x137 = (13 : Int32)) rfl rfl rfl c140 ?_
                                                      refine zA_push rfl rfl zkk5 ?_
                                                      refine zA_go rfl rfl ?_
                                                      exact zA_tr (L := [some (zrv x0), some (zrv x1), some (zI x2), some (zI x3), some (zI x4), some (zI x5), some (zI x6), some (zI x7), some (zI x8), some (zI x9), none, some (zI x25), none, none, none, none, none, none, none]) rfl rfl (zmS291_552 ih _ _ _ _ _ _ _ _ _ _ _ _ _ _ _ H)
                                                    · refine zA_brT' (c := x137 = (13 : Int32)) rfl rfl rfl c140 ?_
                                                      refine zA_tr (L := [some (zrv x0), some (zrv x1), some (zI x2), some (zI x3), some (zI x4), some (zI x5), some (zI x6), some (zI x7), some (zI x8), some (zI x9), none, some (zI x25), none, none, none, none, none, none, none]) rfl rfl ?_
                                                      refine zA_push rfl rfl zkk7 ?_
                                                      exact zA_tr (L := [some (zrv x0), some (zrv x1), some (zI x2), some (zI x3), some (zI x4), some (zI x5), some (zI x6), some (zI x7), some (zI x8), some (zI x9), none, some (zI x25), none, none, none, none, none, none, none]) rfl rfl (zmS291_552 ih _ _ _ _ _ _ _ _ _ _ _ _ _ _ _ H)
                                              · cases H
                                                exact zA_callX (as := [zrv x1, zI (x3 - (1 : Int32))]) (st' := []) rfl rfl (zrcv_Q e131 c132) rfl (zmE63 _ _) rfl rfl rfl (zmS63 C)
                                          · cases H
                                            exact zA_callX (as := [zrv x1, zI (x3 - (1 : Int32))]) (st' := []) rfl rfl (zrcv_Q e131 c132) rfl (zmE61 _ _) rfl rfl rfl (zmS61 C)
                                      · refine zA_brT' (c := x27 = (17 : Int32)) rfl rfl rfl c127 ?_
                                        refine zA_tr (L := [some (zrv x0), some (zrv x1), some (zI x2), some (zI x3), some (zI x4), some (zI x5), some (zI x6), some (zI x7), some (zI x8), some (zI x9), none, some (zI x25), none, none, some (zI x31), none, none, none, none]) rfl rfl ?_
                                        refine zA_push rfl rfl zkk7 ?_
                                        refine zA_ist2 rfl rfl rfl (zset1 (L' := [some (zrv x0), some (zrv x1), some (zI x2), some (zI x3), some (zI x4), some (zI x5), some (zI x6), some (zI x7), some (zI x8), some (zI x9), none, some (zI x25), none, none, some (zI x31), none, some (zI (0 : Int32)), none, none]) rfl rfl (zpcN rfl)) ?_
                                        refine zA_push rfl rfl zkk7 ?_
                                        refine zA_ist2 rfl rfl rfl (zset1 (L' := [some (zrv x0), some (zrv x1), some (zI x2), some (zI x3), some (zI x4), some (zI x5), some (zI x6), some (zI x7), some (zI x8), some (zI x9), none, some (zI x25), none, none, some (zI x31), none, some (zI (0 : Int32)), some (zI (0 : Int32)), none]) rfl rfl (zpcV rfl rfl)) ?_
                                        exact zA_tr (L := [some (zrv x0), some (zrv x1), some (zI x2), some (zI x3), some (zI x4), some (zI x5), some (zI x6), some (zI x7), some (zI x8), some (zI x9), none, some (zI x25), none, none, some (zI x31), none, some (zI (0 : Int32)), some (zI (0 : Int32)), none]) rfl rfl (zmS291_564 (zmS291_576 ih) zN0 _ _ _ _ _ _ _ _ _ _ _ _ _ _ _ _ _ H)
                        · refine zA_brF (c := (11 : Int32) ≤ x27) rfl rfl rfl c36 ?_
                          refine zA_push rfl rfl zkk5 ?_
                          refine zA_ld rfl rfl rfl ?_
                          refine zA_push rfl rfl zkk9 ?_
                          refine zA_st (st' := [zI (x25 >>> ((4 : Int32) &&& 31)), zI (1 : Int32)]) rfl rfl rfl rfl ?_
                          refine zA_push rfl rfl zkk14 ?_
                          rcases zb_e H with ⟨x142, h141, C, H⟩ | ⟨E, h141, C, H⟩
                          · refine zA_callV (as := [zI (x25 >>> ((4 : Int32) &&& 31)), zI (6 : Int32)]) (st' := [zI (1 : Int32)]) rfl rfl rfl rfl rfl (zmE242 _ _) rfl (zmS242 C) ?_
                            refine zA_st (st' := [zI ((1 : Int32) + x142)]) rfl rfl rfl rfl ?_
                            obtain ⟨x143, e144, H⟩ := zlet_e H
                            refine zA_ist2 rfl rfl e144 (zset1 (L' := [some (zrv x0), some (zrv x1), some (zI x2), some (zI x3), some (zI x4), some (zI x5), some (zI x6), some (zI x7), some (zI x8), some (zI x9), none, some (zI x25), some (zI x27), some (zI x29), some (zI x31), some (zI (1 : Int32)), some (zI x143), none, none]) rfl rfl (zpcV rfl rfl)) ?_
                            refine zA_aldn rfl rfl rfl ?_
                            refine zA_ld rfl rfl rfl ?_
                            obtain ⟨p145, i146, e147, c148, H⟩ := zob_e H
                            rcases zb_e H with ⟨x150, h149, C, H⟩ | ⟨E, h149, C, H⟩
                            · refine zA_callV (as := [zrv x1, zI x143]) (st' := []) rfl rfl rfl (zrcv_Q e147 c148) rfl (zmE73 _ _) rfl (zmS73 C) ?_
                              refine zA_pop rfl rfl rfl ?_
                              refine zA_ld rfl rfl rfl ?_
                              refine zA_ld rfl rfl rfl ?_
                              refine zA_st (st' := [zI (x8 + x143)]) rfl rfl rfl rfl ?_
                              obtain ⟨x151, e152, H⟩ := zlet_e H
                              refine zA_ist2 rfl rfl e152 (zset1 (L' := [some (zrv x0), some (zrv x1), some (zI x2), some (zI x3), some (zI x4), some (zI x5), some (zI x6), some (zI x7), some (zI x151), some (zI x9), none, some (zI x25), some (zI x27), some (zI x29), some (zI x31), some (zI (1 : Int32)), some (zI x143), none, none]) rfl rfl (zpcV rfl rfl)) ?_
                              refine zA_go rfl rfl ?_
                              exact zA_tr (L := [some (zrv x0), some (zrv x1), some (zI x2), some (zI x3), some (zI x4), some (zI x5), some (zI x6), some (zI x7), some (zI x151), some (zI x9), none, some (zI x25), none, none, none, some (zI (1 : Int32)), none, none, none]) rfl rfl (zmS291_594 ih _ _ _ _ _ _ _ _ _ _ _ _ _ _ _ H)
                            · cases H
                              exact zA_callX (as := [zrv x1, zI x143]) (st' := []) rfl rfl (zrcv_Q e147 c148) rfl (zmE73 _ _) rfl rfl rfl (zmS73 C)
                          · cases H
                            exact zA_callX (as := [zI (x25 >>> ((4 : Int32) &&& 31)), zI (6 : Int32)]) (st' := [zI (1 : Int32)]) rfl rfl rfl rfl (zmE242 _ _) rfl rfl rfl (zmS242 C)
                      · refine zA_brF (c := (6 : Int32) ≤ x27) rfl rfl rfl c35 ?_
                        refine zA_ldn rfl rfl rfl ?_
                        refine zA_push rfl rfl zkk23 ?_
                        rcases zite_e H with ⟨c153, H⟩ | ⟨c153, H⟩
                        · refine zA_brT (c := (20 : Int32) ≤ x3) rfl rfl rfl c153 ?_
                          exact zA_tr (L := [some (zrv x0), some (zrv x1), some (zI x2), some (zI x3), some (zI x4), some (zI x5), some (zI x6), some (zI x7), some (zI x8), some (zI x9), none, some (zI x25), none, none, none, some (zI (1 : Int32)), none, none, none]) rfl rfl (zmS291_594 ih _ _ _ _ _ _ _ _ _ _ _ _ _ _ _ H)
                        · refine zA_brF (c := (20 : Int32) ≤ x3) rfl rfl rfl c153 ?_
                          refine zA_ldn rfl rfl rfl ?_
                          refine zA_ldn rfl rfl rfl ?_
                          rcases zite_e H with ⟨c154, H⟩ | ⟨c154, H⟩
                          · refine zA_brT (c := x2 ≤ x3) rfl rfl rfl c154 ?_
                            exact zA_tr (L := [some (zrv x0), some (zrv x1), some (zI x2), some (zI x3), some (zI x4), some (zI x5), some (zI x6), some (zI x7), some (zI x8), some (zI x9), none, some (zI x25), none, none, none, some (zI (1 : Int32)), none, none, none]) rfl rfl (zmS291_594 ih _ _ _ _ _ _ _ _ _ _ _ _ _ _ _ H)
                          · refine zA_brF (c := x2 ≤ x3) rfl rfl rfl c154 ?_
                            refine zA_aldn rfl rfl rfl ?_
                            refine zA_ldn rfl rfl rfl ?_
                            refine zA_ld rfl rfl rfl ?_
                            refine zA_push rfl rfl zkk31 ?_
                            refine zA_st (st' := [zI (x25 >>> ((9 : Int32) &&& 31)), zI x3, zrv x1]) rfl rfl rfl rfl ?_
                            refine zA_ld rfl rfl rfl ?_
                            rcases zb_e H with ⟨x156, h155, C, H⟩ | ⟨E, h155, C, H⟩
                            · refine zA_callV (as := [zI (x25 >>> ((9 : Int32) &&& 31)), zI x4]) (st' := [zI x3, zrv x1]) rfl rfl rfl rfl rfl (zmE242 _ _) rfl (zmS242 C) ?_
                              obtain ⟨p157, i158, e159, c160, H⟩ := zob_e H
                              rcases zb_e H with ⟨x162, h161, C, H⟩ | ⟨E, h161, C, H⟩
                              · refine zA_callV (as := [zrv x1, zI x3, zI x156]) (st' := []) rfl rfl rfl (zrcv_Q e159 c160) rfl (zmE52 _ _ _) rfl (zmS52 C) ?_
                                refine zA_ldn rfl rfl rfl ?_
                                rcases zite_e H with ⟨c163, H⟩ | ⟨c163, H⟩
                                · refine zA_brF' (c := x162 = x3) rfl rfl rfl c163 ?_
                                  refine zA_aldn rfl rfl rfl ?_
                                  refine zA_ldn rfl rfl rfl ?_
                                  rcases zb_e H with ⟨x165, h164, C, H⟩ | ⟨E, h164, C, H⟩
                                  · refine zA_callV (as := [zrv x1, zI x3]) (st' := []) rfl rfl rfl (zrcv_Q e159 c160) rfl (zmE61 _ _) rfl (zmS61 C) ?_
                                    rcases zite_e H with ⟨c166, H⟩ | ⟨c166, H⟩
                                    · refine zA_brF' (c := x165 = 0) rfl rfl rfl c166 ?_
                                      refine zA_aldn rfl rfl rfl ?_
                                      refine zA_ldn rfl rfl rfl ?_
                                      rcases zb_e H with ⟨x168, h167, C, H⟩ | ⟨E, h167, C, H⟩
                                      · refine zA_callV (as := [zrv x1, zI x3]) (st' := []) rfl rfl rfl (zrcv_Q e159 c160) rfl (zmE62 _ _) rfl (zmS62 C) ?_
                                        rcases zite_e H with ⟨c169, H⟩ | ⟨c169, H⟩
                                        · refine zA_brF' (c := x168 = 0) rfl rfl rfl c169 ?_
                                          refine zA_push rfl rfl zkk5 ?_
                                          refine zA_go rfl rfl ?_
                                          exact zA_tr (L := [some (zrv x0), some (zrv x1), some (zI x2), some (zI x3), some (zI x4), some (zI x5), some (zI x6), some (zI x7), some (zI x8), some (zI x9), none, some (zI x25), none, none, none, none, none, none, none]) rfl rfl (zmS291_241 ih _ _ _ _ _ _ _ _ _ _ _ _ _ _ _ H)
                                        · refine zA_brT' (c := x168 = 0) rfl rfl rfl c169 ?_
                                          refine zA_tr (L := [some (zrv x0), some (zrv x1), some (zI x2), some (zI x3), some (zI x4), some (zI x5), some (zI x6), some (zI x7), some (zI x8), some (zI x9), none, some (zI x25), none, none, none, none, none, none, none]) rfl rfl ?_
                                          refine zA_push rfl rfl zkk7 ?_
                                          exact zA_tr (L := [some (zrv x0), some (zrv x1), some (zI x2), some (zI x3), some (zI x4), some (zI x5), some (zI x6), some (zI x7), some (zI x8), some (zI x9), none, some (zI x25), none, none, none, none, none, none, none]) rfl rfl (zmS291_241 ih _ _ _ _ _ _ _ _ _ _ _ _ _ _ _ H)
                                      · cases H
                                        exact zA_callX (as := [zrv x1, zI x3]) (st' := []) rfl rfl (zrcv_Q e159 c160) rfl (zmE62 _ _) rfl rfl rfl (zmS62 C)
                                    · refine zA_brT' (c := x165 = 0) rfl rfl rfl c166 ?_
                                      refine zA_tr (L := [some (zrv x0), some (zrv x1), some (zI x2), some (zI x3), some (zI x4), some (zI x5), some (zI x6), some (zI x7), some (zI x8), some (zI x9), none, some (zI x25), none, none, none, none, none, none, none]) rfl rfl ?_
                                      refine zA_push rfl rfl zkk7 ?_
                                      exact zA_tr (L := [some (zrv x0), some (zrv x1), some (zI x2), some (zI x3), some (zI x4), some (zI x5), some (zI x6), some (zI x7), some (zI x8), some (zI x9), none, some (zI x25), none, none, none, none, none, none, none]) rfl rfl (zmS291_241 ih _ _ _ _ _ _ _ _ _ _ _ _ _ _ _ H)
                                  · cases H
                                    exact zA_callX (as := [zrv x1, zI x3]) (st' := []) rfl rfl (zrcv_Q e159 c160) rfl (zmE61 _ _) rfl rfl rfl (zmS61 C)
                                · refine zA_brT' (c := x162 = x3) rfl rfl rfl c163 ?_
                                  refine zA_tr (L := [some (zrv x0), some (zrv x1), some (zI x2), some (zI x3), some (zI x4), some (zI x5), some (zI x6), some (zI x7), some (zI x8), some (zI x9), none, some (zI x25), none, none, none, none, none, none, none]) rfl rfl ?_
                                  refine zA_push rfl rfl zkk7 ?_
                                  exact zA_tr (L := [some (zrv x0), some (zrv x1), some (zI x2), some (zI x3), some (zI x4), some (zI x5), some (zI x6), some (zI x7), some (zI x8), some (zI x9), none, some (zI x25), none, none, none, none, none, none, none]) rfl rfl (zmS291_241 ih _ _ _ _ _ _ _ _ _ _ _ _ _ _ _ H)
                              · cases H
                                exact zA_callX (as := [zrv x1, zI x3, zI x156]) (st' := []) rfl rfl (zrcv_Q e159 c160) rfl (zmE52 _ _ _) rfl rfl rfl (zmS52 C)
                            · cases H
                              exact zA_callX (as := [zI (x25 >>> ((9 : Int32) &&& 31)), zI x4]) (st' := [zI x3, zrv x1]) rfl rfl rfl rfl (zmE242 _ _) rfl rfl rfl (zmS242 C)
                    · refine zA_brF (c := (3 : Int32) ≤ x27) rfl rfl rfl c34 ?_
                      exact zA_tr (L := [some (zrv x0), some (zrv x1), some (zI x2), some (zI x3), some (zI x4), some (zI x5), some (zI x6), some (zI x7), some (zI x8), some (zI x9), none, some (zI x25), none, some (zI x29), none, some (zI (1 : Int32)), none, none, none]) rfl rfl (zmS291_123 ih _ _ _ _ _ _ _ _ _ _ _ _ _ _ _ _ H)
                · refine zA_brF (c := (3 : Int32) ≤ x4) rfl rfl rfl c32 ?_
                  refine zA_aldn rfl rfl rfl ?_
                  obtain ⟨p170, i171, e172, c173, H⟩ := zob_e H
                  rcases zb_e H with ⟨x175, h174, C, H⟩ | ⟨E, h174, C, H⟩
                  · refine zA_callV (as := [zrv x1]) (st' := []) rfl rfl rfl (zrcv_Q e172 c173) rfl (zmE49 _) rfl (zmS49 C) ?_
                    refine zA_pop rfl rfl rfl ?_
                    refine zA_push rfl rfl zkk5 ?_
                    refine zA_ld rfl rfl rfl ?_
                    refine zA_push rfl rfl zkk16 ?_
                    rcases zb_e H with ⟨x177, h176, C, H⟩ | ⟨E, h176, C, H⟩
                    · refine zA_callV (as := [zI x25, zI (5 : Int32)]) (st' := [zI (1 : Int32)]) rfl rfl rfl rfl rfl (zmE242 _ _) rfl (zmS242 C) ?_
                      refine zA_st (st' := [zI ((1 : Int32) + x177)]) rfl rfl rfl rfl ?_
                      obtain ⟨x178, e179, H⟩ := zlet_e H
                      refine zA_ist2 rfl rfl e179 (zset1 (L' := [some (zrv x0), some (zrv x1), some (zI x2), some (zI x3), some (zI x4), some (zI x5), some (zI x6), some (zI x7), some (zI x8), some (zI x9), some (zI x23), some (zI x25), some (zI x27), some (zI x29), some (zI x31), some (zI (1 : Int32)), some (zI x178), none, none]) rfl rfl (zpcV rfl rfl)) ?_
                      refine zA_push rfl rfl zkk7 ?_
                      refine zA_ist2 rfl rfl rfl (zset1 (L' := [some (zrv x0), some (zrv x1), some (zI x2), some (zI x3), some (zI x4), some (zI x5), some (zI x6), some (zI x7), some (zI x8), some (zI x9), some (zI x23), some (zI x25), some (zI x27), some (zI x29), some (zI x31), some (zI (1 : Int32)), some (zI x178), some (zI (0 : Int32)), none]) rfl rfl (zpcV rfl rfl)) ?_
                      exact zA_tr (L := [some (zrv x0), some (zrv x1), some (zI x2), some (zI x3), some (zI x4), some (zI x5), some (zI x6), some (zI x7), some (zI x8), some (zI x9), some (zI x23), some (zI x25), none, none, none, some (zI (1 : Int32)), some (zI x178), some (zI (0 : Int32)), none]) rfl rfl (zmS291_67 (zmS291_115 ih) zN0 _ _ _ _ _ _ _ _ _ _ _ _ _ _ _ _ _ _ H)
                    · cases H
                      exact zA_callX (as := [zI x25, zI (5 : Int32)]) (st' := [zI (1 : Int32)]) rfl rfl rfl rfl (zmE242 _ _) rfl rfl rfl (zmS242 C)
                  · cases H
                    exact zA_callX (as := [zrv x1]) (st' := []) rfl rfl (zrcv_Q e172 c173) rfl (zmE49 _) rfl rfl rfl (zmS49 C)
              · cases H
                exact zA_callX (as := [zI (x25 >>> ((1 : Int32) &&& 31)), zI (3 : Int32)]) (st' := []) rfl rfl rfl rfl (zmE242 _ _) rfl rfl rfl (zmS242 C)
            · cases H
              exact zA_callX (as := [zI x25, zI (2 : Int32)]) (st' := []) rfl rfl rfl rfl (zmE242 _ _) rfl rfl rfl (zmS242 C)
          · cases H
            exact zA_callX (as := [zI x23, zI (20 : Int32)]) (st' := []) rfl rfl rfl rfl (zmE242 _ _) rfl rfl rfl (zmS242 C)
        · cases H
          exact zA_callX (as := [zrv x0, zI (((2 : Int32) * x9) + (1 : Int32))]) (st' := []) rfl rfl rfl rfl (zmE241 _ _) rfl rfl rfl (zmS241 C)
      · cases H
        exact zA_callX (as := [zrv x0, zI ((2 : Int32) * x9)]) (st' := []) rfl rfl rfl rfl (zmE241 _ _) rfl rfl rfl (zmS241 C)
def zm291_623 (x8 : Int32) (h : zH) : zRs Int32 :=
  if (20000 : Int32) < x8 then
    some (.inl (0 : Int32), h)
  else
    some (.inl (1 : Int32), h)
theorem zmS291_623 : ∀ (x8 : Int32) (h : zH) (r : Int32 ⊕ Nat) (h' : zH), zm291_623 x8 h = some (r, h') → zAt 291 623 [none, none, none, none, none, none, none, none, some (zI x8), none, none, none, none, none, none, none, none, none, none] [] h (zoI r) h' := by
  intro x8 h r h' H
  unfold zm291_623 at H
  refine zA_ld rfl rfl rfl ?_
  refine zA_push rfl rfl zkk34 ?_
  rcases zite_e H with ⟨c21, H⟩ | ⟨c21, H⟩
  · refine zA_brT (c := (20000 : Int32) < x8) rfl rfl rfl c21 ?_
    refine zA_tr (L := [none, none, none, none, none, none, none, none, none, none, none, none, none, none, none, none, none, none, none]) rfl rfl ?_
    refine zA_push rfl rfl zkk7 ?_
    cases H
    exact zA_ret rfl (zret_Z (by decide))
  · refine zA_brF (c := (20000 : Int32) < x8) rfl rfl rfl c21 ?_
    refine zA_push rfl rfl zkk5 ?_
    refine zA_go rfl rfl ?_
    refine zA_tr (L := [none, none, none, none, none, none, none, none, none, none, none, none, none, none, none, none, none, none, none]) rfl rfl ?_
    cases H
    exact zA_ret rfl (zret_Z (by decide))
-- 291: ReleaseHouseLaw.law([I)Z
def zm291 (x0 : zq) (h : zH) : zRs Int32 :=
  zlet (znw h 12 0 18) fun h21 =>
  zob 11 (some (12, zct h 12)) fun p23 i24 =>
  zb2 (zm39 (some (12, zct h 12)) h21) fun _ h27 =>
  zlet (some (12, zct h 12)) fun x28 =>
  zm291_20 (zm291_623) zN0 x0 x28 (0 : Int32) (0 : Int32) (0 : Int32) (0 : Int32) (0 : Int32) (0 : Int32) (0 : Int32) (0 : Int32) h27
theorem zmS291 {x0 : zq} {h : zH} {r : Int32 ⊕ Nat} {h' : zH} (H : zm291 x0 h = some (r, h')) : zAt 291 0 [some (zrv x0), none, none, none, none, none, none, none, none, none, none, none, none, none, none, none, none, none, none] [] h (zoI r) h' := by
  unfold zm291 at H
  obtain ⟨h21, e22, H⟩ := zlet_e H
  refine zA_new (n := 18) rfl rfl (fun _ _ _ _ => rfl) e22 ?_
  refine zA_dup rfl rfl (zcat_rv _) ?_
  obtain ⟨p23, i24, e25, c26, H⟩ := zob_e H
  obtain ⟨u30, h27, C, H⟩ := zb2_e H
  refine zA_callU (as := [zrv (some (12, zct h 12))]) (st' := [zrv (some (12, zct h 12))]) rfl rfl rfl (zrcv_Q e25 c26) rfl (zmE39 _) rfl (zmS39 C) ?_
  obtain ⟨x28, e29, H⟩ := zlet_e H
  refine zA_astn2 rfl rfl e29 (zset1 (L' := [some (zrv x0), some (zrv x28), none, none, none, none, none, none, none, none, none, none, none, none, none, none, none, none, none]) (zcat_rv _) rfl (zpcV rfl (zcat_rv _))) ?_
  refine zA_push rfl rfl zkk7 ?_
  refine zA_istn2 rfl rfl rfl (zset1 (L' := [some (zrv x0), some (zrv x28), some (zI (0 : Int32)), none, none, none, none, none, none, none, none, none, none, none, none, none, none, none, none]) rfl rfl (zpcV rfl (zcat_rv _))) ?_
  refine zA_push rfl rfl zkk7 ?_
  refine zA_istn2 rfl rfl rfl (zset1 (L' := [some (zrv x0), some (zrv x28), some (zI (0 : Int32)), some (zI (0 : Int32)), none, none, none, none, none, none, none, none, none, none, none, none, none, none, none]) rfl rfl (zpcV rfl rfl)) ?_
  refine zA_push rfl rfl zkk7 ?_
  refine zA_ist2 rfl rfl rfl (zset1 (L' := [some (zrv x0), some (zrv x28), some (zI (0 : Int32)), some (zI (0 : Int32)), some (zI (0 : Int32)), none, none, none, none, none, none, none, none, none, none, none, none, none, none]) rfl rfl (zpcV rfl rfl)) ?_
  refine zA_push rfl rfl zkk7 ?_
  refine zA_ist2 rfl rfl rfl (zset1 (L' := [some (zrv x0), some (zrv x28), some (zI (0 : Int32)), some (zI (0 : Int32)), some (zI (0 : Int32)), some (zI (0 : Int32)), none, none, none, none, none, none, none, none, none, none, none, none, none]) rfl rfl (zpcV rfl rfl)) ?_
  refine zA_push rfl rfl zkk7 ?_
  refine zA_ist2 rfl rfl rfl (zset1 (L' := [some (zrv x0), some (zrv x28), some (zI (0 : Int32)), some (zI (0 : Int32)), some (zI (0 : Int32)), some (zI (0 : Int32)), some (zI (0 : Int32)), none, none, none, none, none, none, none, none, none, none, none, none]) rfl rfl (zpcV rfl rfl)) ?_
  refine zA_push rfl rfl zkk7 ?_
  refine zA_ist2 rfl rfl rfl (zset1 (L' := [some (zrv x0), some (zrv x28), some (zI (0 : Int32)), some (zI (0 : Int32)), some (zI (0 : Int32)), some (zI (0 : Int32)), some (zI (0 : Int32)), some (zI (0 : Int32)), none, none, none, none, none, none, none, none, none, none, none]) rfl rfl (zpcV rfl rfl)) ?_
  refine zA_push rfl rfl zkk7 ?_
  refine zA_ist2 rfl rfl rfl (zset1 (L' := [some (zrv x0), some (zrv x28), some (zI (0 : Int32)), some (zI (0 : Int32)), some (zI (0 : Int32)), some (zI (0 : Int32)), some (zI (0 : Int32)), some (zI (0 : Int32)), some (zI (0 : Int32)), none, none, none, none, none, none, none, none, none, none]) rfl rfl (zpcV rfl rfl)) ?_
  refine zA_push rfl rfl zkk7 ?_
  refine zA_ist2 rfl rfl rfl (zset1 (L' := [some (zrv x0), some (zrv x28), some (zI (0 : Int32)), some (zI (0 : Int32)), some (zI (0 : Int32)), some (zI (0 : Int32)), some (zI (0 : Int32)), some (zI (0 : Int32)), some (zI (0 : Int32)), some (zI (0 : Int32)), none, none, none, none, none, none, none, none, none]) rfl rfl (zpcV rfl rfl)) ?_
  exact zA_tr (L := [some (zrv x0), some (zrv x28), some (zI (0 : Int32)), some (zI (0 : Int32)), some (zI (0 : Int32)), some (zI (0 : Int32)), some (zI (0 : Int32)), some (zI (0 : Int32)), some (zI (0 : Int32)), some (zI (0 : Int32)), none, none, none, none, none, none, none, none, none]) rfl rfl (zmS291_20 (zmS291_623) zN0 _ _ _ _ _ _ _ _ _ _ _ _ _ H)
theorem zmE291 (x0 : zq) : zpad (zPr.2.1 291).1 (zil [zrv x0]) = [some (zrv x0), none, none, none, none, none, none, none, none, none, none, none, none, none, none, none, none, none, none] := by
  simp only [zil_A, zil_I, zil_F, zil_D, zil_N]
  rfl
