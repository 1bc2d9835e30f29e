set_option maxRecDepth 16384
/-! The methods read back (printed by wip/whole/gen/dec.py). -/
-- 249: ReleaseHouseLaw.stop(LReleaseHouse;I[J)I
def zm249 (x0 : zq) (x1 : Int32) (x2 : zq) (h : zH) : zRs Int32 :=
  zob 11 x0 fun p21 i22 =>
  zbH [(0, 7, 2, 1), (0, 7, 1, 2)] 4 (zm55 x0 x1 h) fun x26 h25 =>
  zar 3 x2 (0 : Int32) h25 fun p27 i28 j29 =>
  zlet (zsl h25 p27 i28 j29 (x26.toInt64)) fun h34 =>
  some (.inl (0 : Int32), h34)
theorem zmS249 {x0 : zq} {x1 : Int32} {x2 : zq} {h : zH} {r : Int32 ⊕ Nat} {h' : zH} (H : zm249 x0 x1 x2 h = some (r, h')) : zAt 249 0 [some (zrv x0), some (zI x1), some (zrv x2), none] [] h (zoI r) h' := by
  unfold zm249 at H
  refine zA_aldn rfl rfl rfl ?_
  refine zA_push rfl rfl zkk7 ?_
  refine zA_aldn rfl rfl rfl ?_
  refine zA_ldn rfl rfl rfl ?_
  obtain ⟨p21, i22, e23, c24, H⟩ := zob_e H
  rcases zbH_e H with ⟨x26, h25, C, H⟩ | ⟨E, h25, c36, C, hc, H⟩
  · refine zA_callV (as := [zrv x0, zI x1]) (st' := [zI (0 : Int32), zrv x2]) rfl rfl rfl (zrcv_Q e23 c24) rfl (zmE55 _ _) rfl (zmS55 C) ?_
    refine zA_st (st' := [zJ (x26.toInt64), zI (0 : Int32), zrv x2]) rfl rfl rfl rfl ?_
    obtain ⟨p27, i28, j29, e30, c31, c32, e33, H⟩ := zar_e H
    obtain ⟨h34, e35, H⟩ := zlet_e H
    refine zA_las rfl rfl e30 c31 c32 e33 e35 ?_
    refine zA_go rfl rfl ?_
    refine zA_tr (L := [none, none, none, none]) rfl rfl ?_
    refine zA_push rfl rfl zkk7 ?_
    cases H
    exact zA_ret rfl rfl
  · cases H
    exact zA_callH (as := [zrv x0, zI x1]) (st' := [zI (0 : Int32), zrv x2]) rfl rfl (zrcv_Q e23 c24) rfl (zmE55 _ _) rfl rfl rfl (List.cons_ne_nil _ _) hc (zmS55 C)
theorem zmE249 (x0 : zq) (x1 : Int32) (x2 : zq) : zpad (zPr.2.1 249).1 (zil [zrv x0, zI x1, zrv x2]) = [some (zrv x0), some (zI x1), some (zrv x2), none] := by
  simp only [zil_A, zil_I, zil_F, zil_D, zil_N]
  rfl
def zm173_2 : Nat → zq → Int32 → zH → zRs Unit
  | 0, _, _, _ => none
  | n + 1, x0, x1, h =>
    if (12 : Int32) ≤ x1 then
      some (.inl (), h)
    else
      zob 12 x0 fun p22 i23 =>
      zri (zr h p22 i23 12) x1 h fun v33 =>
      zar 1 (zr h p22 i23 15) x1 h fun p35 i36 j37 =>
      zlet (zsi h p35 i36 j37 v33) fun h42 =>
      zri (zr h42 p22 i23 13) x1 h42 fun v51 =>
      zar 1 (zr h42 p22 i23 16) x1 h42 fun p53 i54 j55 =>
      zlet (zsi h42 p53 i54 j55 v51) fun h60 =>
      zri (zr h60 p22 i23 14) x1 h60 fun v69 =>
      zar 1 (zr h60 p22 i23 17) x1 h60 fun p71 i72 j73 =>
      zlet (zsi h60 p71 i72 j73 v69) fun h78 =>
      zlet (x1 + (1 : Int32)) fun x80 =>
      zm173_2 n x0 x80 h78
theorem zmS173_2 : ∀ (n : Nat) (x0 : zq) (x1 : Int32) (h : zH) (r : Unit ⊕ Nat) (h' : zH), zm173_2 n x0 x1 h = some (r, h') → zAt 173 2 [some (zrv x0), some (zI x1)] [] h (zoU r) h' := by
  intro n
  induction n with
  | zero => intro x0 x1 h r h' H; cases H
  | succ n ih =>
    intro x0 x1 h r h' H
    unfold zm173_2 at H
    refine zA_ldn rfl rfl rfl ?_
    refine zA_push rfl rfl zkk11 ?_
    rcases zite_e H with ⟨c21, H⟩ | ⟨c21, H⟩
    · refine zA_brT (c := (12 : Int32) ≤ x1) rfl rfl rfl c21 ?_
      refine zA_tr (L := [none, none]) rfl rfl ?_
      cases H
      exact zA_ret rfl rfl
    · refine zA_brF (c := (12 : Int32) ≤ x1) rfl rfl rfl c21 ?_
      refine zA_aldn rfl rfl rfl ?_
      obtain ⟨p22, i23, e24, c25, H⟩ := zob_e H
      refine zA_gf3 rfl rfl e24 c25 ?_
      refine zA_ldn rfl rfl rfl ?_
      refine zA_aldn rfl rfl rfl ?_
      refine zA_gf3 rfl rfl e24 c25 ?_
      refine zA_ldn rfl rfl rfl ?_
      obtain ⟨p26, i27, j28, v33, e29, c30, c31, e32, e34, H⟩ := zri_e H
      refine zA_ial rfl rfl e29 c30 c31 e32 e34 ?_
      obtain ⟨p35, i36, j37, e38, c39, c40, e41, H⟩ := zar_e H
      obtain ⟨h42, e43, H⟩ := zlet_e H
      refine zA_ias rfl rfl e38 c39 c40 e41 e43 ?_
      refine zA_aldn rfl rfl rfl ?_
      refine zA_gf3 rfl rfl e24 c25 ?_
      refine zA_ldn rfl rfl rfl ?_
      refine zA_aldn rfl rfl rfl ?_
      refine zA_gf3 rfl rfl e24 c25 ?_
      refine zA_ldn rfl rfl rfl ?_
      obtain ⟨p44, i45, j46, v51, e47, c48, c49, e50, e52, H⟩ := zri_e H
      refine zA_ial rfl rfl e47 c48 c49 e50 e52 ?_
      obtain ⟨p53, i54, j55, e56, c57, c58, e59, H⟩ := zar_e H
      obtain ⟨h60, e61, H⟩ := zlet_e H
      refine zA_ias rfl rfl e56 c57 c58 e59 e61 ?_
      refine zA_aldn rfl rfl rfl ?_
      refine zA_gf3 rfl rfl e24 c25 ?_
      refine zA_ldn rfl rfl rfl ?_
      refine zA_aldn rfl rfl rfl ?_
      refine zA_gf3 rfl rfl e24 c25 ?_
      refine zA_ldn rfl rfl rfl ?_
      obtain ⟨p62, i63, j64, v69, e65, c66, c67, e68, e70, H⟩ := zri_e H
      refine zA_ial rfl rfl e65 c66 c67 e68 e70 ?_
      obtain ⟨p71, i72, j73, e74, c75, c76, e77, H⟩ := zar_e H
      obtain ⟨h78, e79, H⟩ := zlet_e H
      refine zA_ias rfl rfl e74 c75 c76 e77 e79 ?_
      obtain ⟨x80, e81, H⟩ := zlet_e H
      refine zA_inc rfl rfl rfl (e81.trans (congrArg (_ + ·) zkk8)) (zset1 (L' := [some (zrv x0), some (zI x80)]) rfl rfl (zpcV rfl (zcat_rv _))) ?_
      refine zA_go rfl rfl ?_
      exact zA_tr (L := [some (zrv x0), some (zI x80)]) rfl rfl (ih _ _ _ _ _ H)
-- 173: ReleaseHouseModel.remembers()V
def zm173 (x0 : zq) (h : zH) : zRs Unit :=
  zm173_2 zN0 x0 (0 : Int32) h
theorem zmS173 {x0 : zq} {h : zH} {r : Unit ⊕ Nat} {h' : zH} (H : zm173 x0 h = some (r, h')) : zAt 173 0 [some (zrv x0), none] [] h (zoU r) h' := by
  unfold zm173 at H
  refine zA_push rfl rfl zkk7 ?_
  refine zA_istn2 rfl rfl rfl (zset1 (L' := [some (zrv x0), some (zI (0 : Int32))]) rfl rfl (zpcV rfl (zcat_rv _))) ?_
  exact zA_tr (L := [some (zrv x0), some (zI (0 : Int32))]) rfl rfl (zmS173_2 zN0 _ _ _ _ _ H)
theorem zmE173 (x0 : zq) : zpad (zPr.2.1 173).1 (zil [zrv x0]) = [some (zrv x0), none] := by
  simp only [zil_A, zil_I, zil_F, zil_D, zil_N]
  rfl
def zm175_30 (k2 : zq → Int32 → Int32 → zH → zRs Unit) (x0 : zq) (x1 : Int32) (x2 : Int32) (h : zH) : zRs Unit :=
  zlet (x2 + (1 : Int32)) fun x21 =>
  k2 x0 x1 x21 h
theorem zmS175_30 {k2 : zq → Int32 → Int32 → zH → zRs Unit} (hk2 : ∀ (x0 : zq) (x1 : Int32) (x2 : Int32) (h : zH) (r : Unit ⊕ Nat) (h' : zH), k2 x0 x1 x2 h = some (r, h') → zAt 175 2 [some (zrv x0), some (zI x1), some (zI x2), none] [] h (zoU r) h') : ∀ (x0 : zq) (x1 : Int32) (x2 : Int32) (h : zH) (r : Unit ⊕ Nat) (h' : zH), zm175_30 k2 x0 x1 x2 h = some (r, h') → zAt 175 30 [some (zrv x0), some (zI x1), some (zI x2), none] [] h (zoU r) h' := by
  intro x0 x1 x2 h r h' H
  unfold zm175_30 at H
  obtain ⟨x21, e22, H⟩ := zlet_e H
  refine zA_inc rfl rfl rfl (e22.trans (congrArg (_ + ·) zkk8)) (zset1 (L' := [some (zrv x0), some (zI x1), some (zI x21), none]) rfl rfl (zpcV rfl rfl)) ?_
  refine zA_go rfl rfl ?_
  exact zA_tr (L := [some (zrv x0), some (zI x1), some (zI x21), none]) rfl rfl (hk2 _ _ _ _ _ _ H)
def zm175_2 : Nat → zq → Int32 → Int32 → zH → zRs Unit
  | 0, _, _, _, _ => none
  | n + 1, x0, x1, x2, h =>
    if (3 : Int32) ≤ x2 then
      some (.inl (), h)
    else
      zob 12 x0 fun p22 i23 =>
      zri (zr h p22 i23 3) x1 h fun v33 =>
      zlet (((3 : Int32) * v33) + x2) fun x35 =>
      zri (zr h p22 i23 13) x35 h fun v44 =>
      if v44 = x1 then
        zar 1 (zr h p22 i23 13) x35 h fun p47 i48 j49 =>
        zlet (zsi h p47 i48 j49 (-1 : Int32)) fun h54 =>
        zar 1 (zr h54 p22 i23 14) x35 h54 fun p56 i57 j58 =>
        zlet (zsi h54 p56 i57 j58 (0 : Int32)) fun h63 =>
        zm175_30 (zm175_2 n) x0 x1 x2 h63
      else
        zm175_30 (zm175_2 n) x0 x1 x2 h
theorem zmS175_2 : ∀ (n : Nat) (x0 : zq) (x1 : Int32) (x2 : Int32) (h : zH) (r : Unit ⊕ Nat) (h' : zH), zm175_2 n x0 x1 x2 h = some (r, h') → zAt 175 2 [some (zrv x0), some (zI x1), some (zI x2), none] [] h (zoU r) h' := by
  intro n
  induction n with
  | zero => intro x0 x1 x2 h r h' H; cases H
  | succ n ih =>
    intro x0 x1 x2 h r h' H
    unfold zm175_2 at H
    refine zA_ldn rfl rfl rfl ?_
    refine zA_push rfl rfl zkk3 ?_
    rcases zite_e H with ⟨c21, H⟩ | ⟨c21, H⟩
    · refine zA_brT (c := (3 : Int32) ≤ x2) rfl rfl rfl c21 ?_
      refine zA_tr (L := [none, none, none, none]) rfl rfl ?_
      cases H
      exact zA_ret rfl rfl
    · refine zA_brF (c := (3 : Int32) ≤ x2) rfl rfl rfl c21 ?_
      refine zA_push rfl rfl zkk3 ?_
      refine zA_aldn rfl rfl rfl ?_
      obtain ⟨p22, i23, e24, c25, H⟩ := zob_e H
      refine zA_gf3 rfl rfl e24 c25 ?_
      refine zA_ldn rfl rfl rfl ?_
      obtain ⟨p26, i27, j28, v33, e29, c30, c31, e32, e34, H⟩ := zri_e H
      refine zA_ial rfl rfl e29 c30 c31 e32 e34 ?_
      refine zA_st (st' := [zI ((3 : Int32) * v33)]) rfl rfl rfl rfl ?_
      refine zA_ldn rfl rfl rfl ?_
      refine zA_st (st' := [zI (((3 : Int32) * v33) + x2)]) rfl rfl rfl rfl ?_
      obtain ⟨x35, e36, H⟩ := zlet_e H
      refine zA_istn2 rfl rfl e36 (zset1 (L' := [some (zrv x0), some (zI x1), some (zI x2), some (zI x35)]) rfl rfl (zpcV rfl rfl)) ?_
      refine zA_aldn rfl rfl rfl ?_
      refine zA_gf3 rfl rfl e24 c25 ?_
      refine zA_ldn rfl rfl rfl ?_
      obtain ⟨p37, i38, j39, v44, e40, c41, c42, e43, e45, H⟩ := zri_e H
      refine zA_ial rfl rfl e40 c41 c42 e43 e45 ?_
      refine zA_ldn rfl rfl rfl ?_
      rcases zite_e H with ⟨c46, H⟩ | ⟨c46, H⟩
      · refine zA_brF' (c := v44 = x1) rfl rfl rfl c46 ?_
        refine zA_aldn rfl rfl rfl ?_
        refine zA_gf3 rfl rfl e24 c25 ?_
        refine zA_ldn rfl rfl rfl ?_
        refine zA_push rfl rfl zkk6 ?_
        obtain ⟨p47, i48, j49, e50, c51, c52, e53, H⟩ := zar_e H
        obtain ⟨h54, e55, H⟩ := zlet_e H
        refine zA_ias rfl rfl e50 c51 c52 e53 e55 ?_
        refine zA_aldn rfl rfl rfl ?_
        refine zA_gf3 rfl rfl e24 c25 ?_
        refine zA_ldn rfl rfl rfl ?_
        refine zA_push rfl rfl zkk7 ?_
        obtain ⟨p56, i57, j58, e59, c60, c61, e62, H⟩ := zar_e H
        obtain ⟨h63, e64, H⟩ := zlet_e H
        refine zA_ias rfl rfl e59 c60 c61 e62 e64 ?_
        exact zA_tr (L := [some (zrv x0), some (zI x1), some (zI x2), none]) rfl rfl (zmS175_30 ih _ _ _ _ _ _ H)
      · refine zA_brT' (c := v44 = x1) rfl rfl rfl c46 ?_
        exact zA_tr (L := [some (zrv x0), some (zI x1), some (zI x2), none]) rfl rfl (zmS175_30 ih _ _ _ _ _ _ H)
-- 175: ReleaseHouseModel.loses(I)V
def zm175 (x0 : zq) (x1 : Int32) (h : zH) : zRs Unit :=
  zm175_2 zN0 x0 x1 (0 : Int32) h
theorem zmS175 {x0 : zq} {x1 : Int32} {h : zH} {r : Unit ⊕ Nat} {h' : zH} (H : zm175 x0 x1 h = some (r, h')) : zAt 175 0 [some (zrv x0), some (zI x1), none, none] [] h (zoU r) h' := by
  unfold zm175 at H
  refine zA_push rfl rfl zkk7 ?_
  refine zA_istn2 rfl rfl rfl (zset1 (L' := [some (zrv x0), some (zI x1), some (zI (0 : Int32)), none]) rfl rfl (zpcV rfl rfl)) ?_
  exact zA_tr (L := [some (zrv x0), some (zI x1), some (zI (0 : Int32)), none]) rfl rfl (zmS175_2 zN0 _ _ _ _ _ _ H)
theorem zmE175 (x0 : zq) (x1 : Int32) : zpad (zPr.2.1 175).1 (zil [zrv x0, zI x1]) = [some (zrv x0), some (zI x1), none, none] := by
  simp only [zil_A, zil_I, zil_F, zil_D, zil_N]
  rfl
def zm177_45 (k13 : zq → Int32 → Int32 → Int32 → Int32 → Int32 → zH → zRs Int32) (x0 : zq) (x1 : Int32) (x2 : Int32) (x3 : Int32) (x5 : Int32) (s0 : Int32) (h : zH) : zRs Int32 :=
  zlet (x5 + (1 : Int32)) fun x21 =>
  k13 x0 x1 x2 x3 s0 x21 h
theorem zmS177_45 {k13 : zq → Int32 → Int32 → Int32 → Int32 → Int32 → zH → zRs Int32} (hk13 : ∀ (x0 : zq) (x1 : Int32) (x2 : Int32) (x3 : Int32) (x4 : Int32) (x5 : Int32) (h : zH) (r : Int32 ⊕ Nat) (h' : zH), k13 x0 x1 x2 x3 x4 x5 h = some (r, h') → zAt 177 13 [some (zrv x0), some (zI x1), some (zI x2), some (zI x3), some (zI x4), some (zI x5), none] [] h (zoI r) h') : ∀ (x0 : zq) (x1 : Int32) (x2 : Int32) (x3 : Int32) (x5 : Int32) (s0 : Int32) (h : zH) (r : Int32 ⊕ Nat) (h' : zH), zm177_45 k13 x0 x1 x2 x3 x5 s0 h = some (r, h') → zAt 177 45 [some (zrv x0), some (zI x1), some (zI x2), some (zI x3), none, some (zI x5), none] [zI s0] h (zoI r) h' := by
  intro x0 x1 x2 x3 x5 s0 h r h' H
  unfold zm177_45 at H
  refine zA_ist2 rfl rfl rfl (zset1 (L' := [some (zrv x0), some (zI x1), some (zI x2), some (zI x3), some (zI s0), some (zI x5), none]) rfl rfl (zpcV rfl rfl)) ?_
  obtain ⟨x21, e22, H⟩ := zlet_e H
  refine zA_inc rfl rfl rfl (e22.trans (congrArg (_ + ·) zkk8)) (zset1 (L' := [some (zrv x0), some (zI x1), some (zI x2), some (zI x3), some (zI s0), some (zI x21), none]) rfl rfl (zpcV rfl rfl)) ?_
  refine zA_go rfl rfl ?_
  exact zA_tr (L := [some (zrv x0), some (zI x1), some (zI x2), some (zI x3), some (zI s0), some (zI x21), none]) rfl rfl (hk13 _ _ _ _ _ _ _ _ _ H)
def zm177_31 (k13 : zq → Int32 → Int32 → Int32 → Int32 → Int32 → zH → zRs Int32) (x0 : zq) (x1 : Int32) (x2 : Int32) (x3 : Int32) (x5 : Int32) (s0 : Int32) (h : zH) : zRs Int32 :=
  if x5 = x1 then
    zm177_45 k13 x0 x1 x2 x3 x5 (1 : Int32) h
  else
    if s0 = 0 then
      zm177_45 k13 x0 x1 x2 x3 x5 (1 : Int32) h
    else
      zob 12 x0 fun p23 i24 =>
      zb (zm146 x0 x1 x5 h) fun x28 h27 =>
      if x28 = 0 then
        zm177_45 k13 x0 x1 x2 x3 x5 (1 : Int32) h27
      else
        zm177_45 k13 x0 x1 x2 x3 x5 (0 : Int32) h27
theorem zmS177_31 {k13 : zq → Int32 → Int32 → Int32 → Int32 → Int32 → zH → zRs Int32} (hk13 : ∀ (x0 : zq) (x1 : Int32) (x2 : Int32) (x3 : Int32) (x4 : Int32) (x5 : Int32) (h : zH) (r : Int32 ⊕ Nat) (h' : zH), k13 x0 x1 x2 x3 x4 x5 h = some (r, h') → zAt 177 13 [some (zrv x0), some (zI x1), some (zI x2), some (zI x3), some (zI x4), some (zI x5), none] [] h (zoI r) h') : ∀ (x0 : zq) (x1 : Int32) (x2 : Int32) (x3 : Int32) (x5 : Int32) (s0 : Int32) (h : zH) (r : Int32 ⊕ Nat) (h' : zH), zm177_31 k13 x0 x1 x2 x3 x5 s0 h = some (r, h') → zAt 177 31 [some (zrv x0), some (zI x1), some (zI x2), some (zI x3), none, some (zI x5), none] [zI s0] h (zoI r) h' := by
  intro x0 x1 x2 x3 x5 s0 h r h' H
  unfold zm177_31 at H
  refine zA_ist2 rfl rfl rfl (zset1 (L' := [some (zrv x0), some (zI x1), some (zI x2), some (zI x3), none, some (zI x5), some (zI s0)]) rfl rfl (zpcV rfl rfl)) ?_
  refine zA_ld rfl rfl rfl ?_
  refine zA_ldn rfl rfl rfl ?_
  rcases zite_e H with ⟨c21, H⟩ | ⟨c21, H⟩
  · refine zA_brT (c := x5 = x1) rfl rfl rfl c21 ?_
    refine zA_tr (L := [some (zrv x0), some (zI x1), some (zI x2), some (zI x3), none, some (zI x5), none]) rfl rfl ?_
    refine zA_push rfl rfl zkk5 ?_
    refine zA_go rfl rfl ?_
    exact zA_tr (L := [some (zrv x0), some (zI x1), some (zI x2), some (zI x3), none, some (zI x5), none]) rfl rfl (zmS177_45 hk13 _ _ _ _ _ _ _ _ _ H)
  · refine zA_brF (c := x5 = x1) rfl rfl rfl c21 ?_
    refine zA_ld rfl rfl rfl ?_
    rcases zite_e H with ⟨c22, H⟩ | ⟨c22, H⟩
    · refine zA_brT (c := s0 = 0) rfl rfl rfl c22 ?_
      refine zA_tr (L := [some (zrv x0), some (zI x1), some (zI x2), some (zI x3), none, some (zI x5), none]) rfl rfl ?_
      refine zA_push rfl rfl zkk5 ?_
      refine zA_go rfl rfl ?_
      exact zA_tr (L := [some (zrv x0), some (zI x1), some (zI x2), some (zI x3), none, some (zI x5), none]) rfl rfl (zmS177_45 hk13 _ _ _ _ _ _ _ _ _ H)
    · refine zA_brF (c := s0 = 0) rfl rfl rfl c22 ?_
      refine zA_aldn rfl rfl rfl ?_
      refine zA_ldn rfl rfl rfl ?_
      refine zA_ld rfl rfl rfl ?_
      obtain ⟨p23, i24, e25, c26, H⟩ := zob_e H
      rcases zb_e H with ⟨x28, h27, C, H⟩ | ⟨E, h27, C, H⟩
      · refine zA_callV (as := [zrv x0, zI x1, zI x5]) (st' := []) rfl rfl rfl (zrcv_Q e25 c26) rfl (zmE146 _ _ _) rfl (zmS146 C) ?_
        rcases zite_e H with ⟨c29, H⟩ | ⟨c29, H⟩
        · refine zA_brF' (c := x28 = 0) rfl rfl rfl c29 ?_
          refine zA_tr (L := [some (zrv x0), some (zI x1), some (zI x2), some (zI x3), none, some (zI x5), none]) rfl rfl ?_
          refine zA_push rfl rfl zkk5 ?_
          refine zA_go rfl rfl ?_
          exact zA_tr (L := [some (zrv x0), some (zI x1), some (zI x2), some (zI x3), none, some (zI x5), none]) rfl rfl (zmS177_45 hk13 _ _ _ _ _ _ _ _ _ H)
        · refine zA_brT' (c := x28 = 0) rfl rfl rfl c29 ?_
          refine zA_tr (L := [some (zrv x0), some (zI x1), some (zI x2), some (zI x3), none, some (zI x5), none]) rfl rfl ?_
          refine zA_push rfl rfl zkk7 ?_
          exact zA_tr (L := [some (zrv x0), some (zI x1), some (zI x2), some (zI x3), none, some (zI x5), none]) rfl rfl (zmS177_45 hk13 _ _ _ _ _ _ _ _ _ H)
      · cases H
        exact zA_callX (as := [zrv x0, zI x1, zI x5]) (st' := []) rfl rfl (zrcv_Q e25 c26) rfl (zmE146 _ _ _) rfl rfl rfl (zmS146 C)
def zm177_13 : Nat → zq → Int32 → Int32 → Int32 → Int32 → Int32 → zH → zRs Int32
  | 0, _, _, _, _, _, _, _ => none
  | n + 1, x0, x1, x2, x3, x4, x5, h =>
    zob 12 x0 fun p21 i22 =>
    if (zi h p21 i22 2) ≤ x5 then
      zif (x4 = 0 ∨ x4 = 1) <|
      some (.inl x4, h)
    else
      if x4 = 0 then
        zif (x4 = 0 ∨ x4 = 1) <|
        some (.inl x4, h)
      else
        if x5 = x2 then
          zb (zm148 x0 x5 x3 h) fun x31 h30 =>
          zm177_31 (zm177_13 n) x0 x1 x2 x3 x5 x31 h30
        else
          zb (zm148 x0 x5 (-1 : Int32) h) fun x33 h32 =>
          zm177_31 (zm177_13 n) x0 x1 x2 x3 x5 x33 h32
theorem zmS177_13 : ∀ (n : Nat) (x0 : zq) (x1 : Int32) (x2 : Int32) (x3 : Int32) (x4 : Int32) (x5 : Int32) (h : zH) (r : Int32 ⊕ Nat) (h' : zH), zm177_13 n x0 x1 x2 x3 x4 x5 h = some (r, h') → zAt 177 13 [some (zrv x0), some (zI x1), some (zI x2), some (zI x3), some (zI x4), some (zI x5), none] [] h (zoI r) h' := by
  intro n
  induction n with
  | zero => intro x0 x1 x2 x3 x4 x5 h r h' H; cases H
  | succ n ih =>
    intro x0 x1 x2 x3 x4 x5 h r h' H
    unfold zm177_13 at H
    refine zA_ld rfl rfl rfl ?_
    refine zA_aldn rfl rfl rfl ?_
    obtain ⟨p21, i22, e23, c24, H⟩ := zob_e H
    refine zA_gf0 rfl rfl (Or.inl rfl) e23 c24 ?_
    rcases zite_e H with ⟨c25, H⟩ | ⟨c25, H⟩
    · refine zA_brT (c := (zi h p21 i22 2) ≤ x5) rfl rfl rfl c25 ?_
      refine zA_tr (L := [none, none, none, none, some (zI x4), none, none]) rfl rfl ?_
      refine zA_ld rfl rfl rfl ?_
      obtain ⟨c26, H⟩ := zif_e H
      cases H
      exact zA_ret rfl (zret_Z c26)
    · refine zA_brF (c := (zi h p21 i22 2) ≤ x5) rfl rfl rfl c25 ?_
      refine zA_ld rfl rfl rfl ?_
      rcases zite_e H with ⟨c27, H⟩ | ⟨c27, H⟩
      · refine zA_brT (c := x4 = 0) rfl rfl rfl c27 ?_
        refine zA_tr (L := [none, none, none, none, some (zI x4), none, none]) rfl rfl ?_
        refine zA_ld rfl rfl rfl ?_
        obtain ⟨c28, H⟩ := zif_e H
        cases H
        exact zA_ret rfl (zret_Z c28)
      · refine zA_brF (c := x4 = 0) rfl rfl rfl c27 ?_
        refine zA_ld rfl rfl rfl ?_
        refine zA_ldn rfl rfl rfl ?_
        rcases zite_e H with ⟨c29, H⟩ | ⟨c29, H⟩
        · refine zA_brF' (c := x5 = x2) rfl rfl rfl c29 ?_
          refine zA_aldn rfl rfl rfl ?_
          refine zA_ld rfl rfl rfl ?_
          refine zA_ldn rfl rfl rfl ?_
          rcases zb_e H with ⟨x31, h30, C, H⟩ | ⟨E, h30, C, H⟩
          · refine zA_callV (as := [zrv x0, zI x5, zI x3]) (st' := []) rfl rfl rfl (zrcv_Q e23 c24) rfl (zmE148 _ _ _) rfl (zmS148 C) ?_
            refine zA_go rfl rfl ?_
            exact zA_tr (L := [some (zrv x0), some (zI x1), some (zI x2), some (zI x3), none, some (zI x5), none]) rfl rfl (zmS177_31 ih _ _ _ _ _ _ _ _ _ H)
          · cases H
            exact zA_callX (as := [zrv x0, zI x5, zI x3]) (st' := []) rfl rfl (zrcv_Q e23 c24) rfl (zmE148 _ _ _) rfl rfl rfl (zmS148 C)
        · refine zA_brT' (c := x5 = x2) rfl rfl rfl c29 ?_
          refine zA_tr (L := [some (zrv x0), some (zI x1), some (zI x2), some (zI x3), none, some (zI x5), none]) rfl rfl ?_
          refine zA_aldn rfl rfl rfl ?_
          refine zA_ld rfl rfl rfl ?_
          refine zA_push rfl rfl zkk6 ?_
          rcases zb_e H with ⟨x33, h32, C, H⟩ | ⟨E, h32, C, H⟩
          · refine zA_callV (as := [zrv x0, zI x5, zI (-1 : Int32)]) (st' := []) rfl rfl rfl (zrcv_Q e23 c24) rfl (zmE148 _ _ _) rfl (zmS148 C) ?_
            exact zA_tr (L := [some (zrv x0), some (zI x1), some (zI x2), some (zI x3), none, some (zI x5), none]) rfl rfl (zmS177_31 ih _ _ _ _ _ _ _ _ _ H)
          · cases H
            exact zA_callX (as := [zrv x0, zI x5, zI (-1 : Int32)]) (st' := []) rfl rfl (zrcv_Q e23 c24) rfl (zmE148 _ _ _) rfl rfl rfl (zmS148 C)
def zm177_10 (x0 : zq) (x1 : Int32) (x2 : Int32) (x3 : Int32) (s0 : Int32) (h : zH) : zRs Int32 :=
  zm177_13 zN0 x0 x1 x2 x3 s0 (0 : Int32) h
theorem zmS177_10 : ∀ (x0 : zq) (x1 : Int32) (x2 : Int32) (x3 : Int32) (s0 : Int32) (h : zH) (r : Int32 ⊕ Nat) (h' : zH), zm177_10 x0 x1 x2 x3 s0 h = some (r, h') → zAt 177 10 [some (zrv x0), some (zI x1), some (zI x2), some (zI x3), none, none, none] [zI s0] h (zoI r) h' := by
  intro x0 x1 x2 x3 s0 h r h' H
  unfold zm177_10 at H
  refine zA_ist2 rfl rfl rfl (zset1 (L' := [some (zrv x0), some (zI x1), some (zI x2), some (zI x3), some (zI s0), none, none]) rfl rfl (zpcV rfl rfl)) ?_
  refine zA_push rfl rfl zkk7 ?_
  refine zA_ist2 rfl rfl rfl (zset1 (L' := [some (zrv x0), some (zI x1), some (zI x2), some (zI x3), some (zI s0), some (zI (0 : Int32)), none]) rfl rfl (zpcV rfl rfl)) ?_
  exact zA_tr (L := [some (zrv x0), some (zI x1), some (zI x2), some (zI x3), some (zI s0), some (zI (0 : Int32)), none]) rfl rfl (zmS177_13 zN0 _ _ _ _ _ _ _ _ _ H)
-- 177: ReleaseHouseModel.mayReturn(III)Z
def zm177 (x0 : zq) (x1 : Int32) (x2 : Int32) (x3 : Int32) (h : zH) : zRs Int32 :=
  if x1 = (-1 : Int32) then
    zm177_10 x0 x1 x2 x3 (0 : Int32) h
  else
    zob 12 x0 fun p22 i23 =>
    zb (zm150 x0 x1 h) fun x27 h26 =>
    if x27 = 0 then
      zm177_10 x0 x1 x2 x3 (0 : Int32) h26
    else
      zm177_10 x0 x1 x2 x3 (1 : Int32) h26
theorem zmS177 {x0 : zq} {x1 : Int32} {x2 : Int32} {x3 : Int32} {h : zH} {r : Int32 ⊕ Nat} {h' : zH} (H : zm177 x0 x1 x2 x3 h = some (r, h')) : zAt 177 0 [some (zrv x0), some (zI x1), some (zI x2), some (zI x3), none, none, none] [] h (zoI r) h' := by
  unfold zm177 at H
  refine zA_ldn rfl rfl rfl ?_
  refine zA_push rfl rfl zkk6 ?_
  rcases zite_e H with ⟨c21, H⟩ | ⟨c21, H⟩
  · refine zA_brT (c := x1 = (-1 : Int32)) rfl rfl rfl c21 ?_
    refine zA_push rfl rfl zkk7 ?_
    exact zA_tr (L := [some (zrv x0), some (zI x1), some (zI x2), some (zI x3), none, none, none]) rfl rfl (zmS177_10 _ _ _ _ _ _ _ _ H)
  · refine zA_brF (c := x1 = (-1 : Int32)) rfl rfl rfl c21 ?_
    refine zA_aldn rfl rfl rfl ?_
    refine zA_ldn rfl rfl rfl ?_
    obtain ⟨p22, i23, e24, c25, H⟩ := zob_e H
    rcases zb_e H with ⟨x27, h26, C, H⟩ | ⟨E, h26, C, H⟩
    · refine zA_callV (as := [zrv x0, zI x1]) (st' := []) rfl rfl rfl (zrcv_Q e24 c25) rfl (zmE150 _ _) rfl (zmS150 C) ?_
      rcases zite_e H with ⟨c28, H⟩ | ⟨c28, H⟩
      · refine zA_brT (c := x27 = 0) rfl rfl rfl c28 ?_
        refine zA_push rfl rfl zkk7 ?_
        exact zA_tr (L := [some (zrv x0), some (zI x1), some (zI x2), some (zI x3), none, none, none]) rfl rfl (zmS177_10 _ _ _ _ _ _ _ _ H)
      · refine zA_brF (c := x27 = 0) rfl rfl rfl c28 ?_
        refine zA_push rfl rfl zkk5 ?_
        refine zA_go rfl rfl ?_
        exact zA_tr (L := [some (zrv x0), some (zI x1), some (zI x2), some (zI x3), none, none, none]) rfl rfl (zmS177_10 _ _ _ _ _ _ _ _ H)
    · cases H
      exact zA_callX (as := [zrv x0, zI x1]) (st' := []) rfl rfl (zrcv_Q e24 c25) rfl (zmE150 _ _) rfl rfl rfl (zmS150 C)
theorem zmE177 (x0 : zq) (x1 : Int32) (x2 : Int32) (x3 : Int32) : zpad (zPr.2.1 177).1 (zil [zrv x0, zI x1, zI x2, zI x3]) = [some (zrv x0), some (zI x1), some (zI x2), some (zI x3), none, none, none] := by
  simp only [zil_A, zil_I, zil_F, zil_D, zil_N]
  rfl
def zm176_60 (k12 : zq → Int32 → Int32 → zH → zRs Unit) (x0 : zq) (x3 : Int32) (x4 : Int32) (h : zH) : zRs Unit :=
  zlet (x4 + (1 : Int32)) fun x21 =>
  k12 x0 x3 x21 h
theorem zmS176_60 {k12 : zq → Int32 → Int32 → zH → zRs Unit} (hk12 : ∀ (x0 : zq) (x3 : Int32) (x4 : Int32) (h : zH) (r : Unit ⊕ Nat) (h' : zH), k12 x0 x3 x4 h = some (r, h') → zAt 176 12 [some (zrv x0), none, none, some (zI x3), some (zI x4)] [] h (zoU r) h') : ∀ (x0 : zq) (x3 : Int32) (x4 : Int32) (h : zH) (r : Unit ⊕ Nat) (h' : zH), zm176_60 k12 x0 x3 x4 h = some (r, h') → zAt 176 60 [some (zrv x0), none, none, some (zI x3), some (zI x4)] [] h (zoU r) h' := by
  intro x0 x3 x4 h r h' H
  unfold zm176_60 at H
  obtain ⟨x21, e22, H⟩ := zlet_e H
  refine zA_inc rfl rfl rfl (e22.trans (congrArg (_ + ·) zkk8)) (zset1 (L' := [some (zrv x0), none, none, some (zI x3), some (zI x21)]) rfl rfl (zpcV rfl rfl)) ?_
  refine zA_go rfl rfl ?_
  exact zA_tr (L := [some (zrv x0), none, none, some (zI x3), some (zI x21)]) rfl rfl (hk12 _ _ _ _ _ _ H)
def zm176_12 : Nat → zq → Int32 → Int32 → zH → zRs Unit
  | 0, _, _, _, _ => none
  | n + 1, x0, x3, x4, h =>
    zob 12 x0 fun p21 i22 =>
    if (zi h p21 i22 30) ≤ x4 then
      some (.inl (), h)
    else
      zrb (zr h p21 i22 10) x3 h fun v33 =>
      if v33 = 0 then
        zm176_60 (zm176_12 n) x0 x3 x4 h
      else
        zri (zr h p21 i22 33) x4 h fun v43 =>
        if v43 = (1 : Int32) then
          zri (zr h p21 i22 31) x4 h fun v53 =>
          zri (zr h p21 i22 3) v53 h fun v62 =>
          zri (zr h p21 i22 3) x3 h fun v71 =>
          if v62 = v71 then
            zar 1 (zr h p21 i22 33) x4 h fun p74 i75 j76 =>
            zlet (zsi h p74 i75 j76 (0 : Int32)) fun h81 =>
            zar 1 (zr h81 p21 i22 34) x4 h81 fun p83 i84 j85 =>
            zlet (zsi h81 p83 i84 j85 (0 : Int32)) fun h90 =>
            zar 1 (zr h90 p21 i22 35) x4 h90 fun p92 i93 j94 =>
            zlet (zsi h90 p92 i93 j94 (zi h90 p21 i22 1)) fun h99 =>
            zar 2 (zr h99 p21 i22 37) x4 h99 fun p101 i102 j103 =>
            zlet (zsi h99 p101 i102 j103 (0 : Int32)) fun h108 =>
            zm176_60 (zm176_12 n) x0 x3 x4 h108
          else
            zm176_60 (zm176_12 n) x0 x3 x4 h
        else
          zm176_60 (zm176_12 n) x0 x3 x4 h
theorem zmS176_12 : ∀ (n : Nat) (x0 : zq) (x3 : Int32) (x4 : Int32) (h : zH) (r : Unit ⊕ Nat) (h' : zH), zm176_12 n x0 x3 x4 h = some (r, h') → zAt 176 12 [some (zrv x0), none, none, some (zI x3), some (zI x4)] [] h (zoU r) h' := by
  intro n
  induction n with
  | zero => intro x0 x3 x4 h r h' H; cases H
  | succ n ih =>
    intro x0 x3 x4 h r h' H
    unfold zm176_12 at H
    refine zA_ld rfl rfl rfl ?_
    refine zA_aldn rfl rfl rfl ?_
    obtain ⟨p21, i22, e23, c24, H⟩ := zob_e H
    refine zA_gf0 rfl rfl (Or.inl rfl) e23 c24 ?_
    rcases zite_e H with ⟨c25, H⟩ | ⟨c25, H⟩
    · refine zA_brT (c := (zi h p21 i22 30) ≤ x4) rfl rfl rfl c25 ?_
      refine zA_tr (L := [none, none, none, none, none]) rfl rfl ?_
      cases H
      exact zA_ret rfl rfl
    · refine zA_brF (c := (zi h p21 i22 30) ≤ x4) rfl rfl rfl c25 ?_
      refine zA_aldn rfl rfl rfl ?_
      refine zA_gf3 rfl rfl e23 c24 ?_
      refine zA_ldn rfl rfl rfl ?_
      obtain ⟨p26, i27, j28, v33, e29, c30, c31, e32, e34, H⟩ := zrb_e H
      refine zA_bal rfl rfl e29 c30 c31 e32 e34 ?_
      rcases zite_e H with ⟨c35, H⟩ | ⟨c35, H⟩
      · refine zA_brT (c := v33 = 0) rfl rfl rfl c35 ?_
        exact zA_tr (L := [some (zrv x0), none, none, some (zI x3), some (zI x4)]) rfl rfl (zmS176_60 ih _ _ _ _ _ _ H)
      · refine zA_brF (c := v33 = 0) rfl rfl rfl c35 ?_
        refine zA_aldn rfl rfl rfl ?_
        refine zA_gf3 rfl rfl e23 c24 ?_
        refine zA_ld rfl rfl rfl ?_
        obtain ⟨p36, i37, j38, v43, e39, c40, c41, e42, e44, H⟩ := zri_e H
        refine zA_ial rfl rfl e39 c40 c41 e42 e44 ?_
        refine zA_push rfl rfl zkk5 ?_
        rcases zite_e H with ⟨c45, H⟩ | ⟨c45, H⟩
        · refine zA_brF' (c := v43 = (1 : Int32)) rfl rfl rfl c45 ?_
          refine zA_aldn rfl rfl rfl ?_
          refine zA_gf3 rfl rfl e23 c24 ?_
          refine zA_aldn rfl rfl rfl ?_
          refine zA_gf3 rfl rfl e23 c24 ?_
          refine zA_ld rfl rfl rfl ?_
          obtain ⟨p46, i47, j48, v53, e49, c50, c51, e52, e54, H⟩ := zri_e H
          refine zA_ial rfl rfl e49 c50 c51 e52 e54 ?_
          obtain ⟨p55, i56, j57, v62, e58, c59, c60, e61, e63, H⟩ := zri_e H
          refine zA_ial rfl rfl e58 c59 c60 e61 e63 ?_
          refine zA_aldn rfl rfl rfl ?_
          refine zA_gf3 rfl rfl e23 c24 ?_
          refine zA_ldn rfl rfl rfl ?_
          obtain ⟨p64, i65, j66, v71, e67, c68, c69, e70, e72, H⟩ := zri_e H
          refine zA_ial rfl rfl e67 c68 c69 e70 e72 ?_
          rcases zite_e H with ⟨c73, H⟩ | ⟨c73, H⟩
          · refine zA_brF' (c := v62 = v71) rfl rfl rfl c73 ?_
            refine zA_aldn rfl rfl rfl ?_
            refine zA_gf3 rfl rfl e23 c24 ?_
            refine zA_ld rfl rfl rfl ?_
            refine zA_push rfl rfl zkk7 ?_
            obtain ⟨p74, i75, j76, e77, c78, c79, e80, H⟩ := zar_e H
            obtain ⟨h81, e82, H⟩ := zlet_e H
            refine zA_ias rfl rfl e77 c78 c79 e80 e82 ?_
            refine zA_aldn rfl rfl rfl ?_
            refine zA_gf3 rfl rfl e23 c24 ?_
            refine zA_ld rfl rfl rfl ?_
            refine zA_push rfl rfl zkk7 ?_
            obtain ⟨p83, i84, j85, e86, c87, c88, e89, H⟩ := zar_e H
            obtain ⟨h90, e91, H⟩ := zlet_e H
            refine zA_ias rfl rfl e86 c87 c88 e89 e91 ?_
            refine zA_aldn rfl rfl rfl ?_
            refine zA_gf3 rfl rfl e23 c24 ?_
            refine zA_ld rfl rfl rfl ?_
            refine zA_aldn rfl rfl rfl ?_
            refine zA_gf0 rfl rfl (Or.inl rfl) e23 c24 ?_
            obtain ⟨p92, i93, j94, e95, c96, c97, e98, H⟩ := zar_e H
            obtain ⟨h99, e100, H⟩ := zlet_e H
            refine zA_ias rfl rfl e95 c96 c97 e98 e100 ?_
            refine zA_aldn rfl rfl rfl ?_
            refine zA_gf3 rfl rfl e23 c24 ?_
            refine zA_ld rfl rfl rfl ?_
            refine zA_push rfl rfl zkk7 ?_
            obtain ⟨p101, i102, j103, e104, c105, c106, e107, H⟩ := zar_e H
            obtain ⟨h108, e109, H⟩ := zlet_e H
            refine zA_bas rfl rfl e104 c105 c106 e107 (by decide) e109 ?_
            exact zA_tr (L := [some (zrv x0), none, none, some (zI x3), some (zI x4)]) rfl rfl (zmS176_60 ih _ _ _ _ _ _ H)
          · refine zA_brT' (c := v62 = v71) rfl rfl rfl c73 ?_
            exact zA_tr (L := [some (zrv x0), none, none, some (zI x3), some (zI x4)]) rfl rfl (zmS176_60 ih _ _ _ _ _ _ H)
        · refine zA_brT' (c := v43 = (1 : Int32)) rfl rfl rfl c45 ?_
          exact zA_tr (L := [some (zrv x0), none, none, some (zI x3), some (zI x4)]) rfl rfl (zmS176_60 ih _ _ _ _ _ _ H)
-- 176: ReleaseHouseModel.ends(II)V
def zm176 (x0 : zq) (x1 : Int32) (x2 : Int32) (h : zH) : zRs Unit :=
  zob 12 x0 fun p21 i22 =>
  zar 1 (zr h p21 i22 33) x1 h fun p25 i26 j27 =>
  zlet (zsi h p25 i26 j27 x2) fun h32 =>
  zri (zr h32 p21 i22 31) x1 h32 fun v41 =>
  zm176_12 zN0 x0 v41 (0 : Int32) h32
theorem zmS176 {x0 : zq} {x1 : Int32} {x2 : Int32} {h : zH} {r : Unit ⊕ Nat} {h' : zH} (H : zm176 x0 x1 x2 h = some (r, h')) : zAt 176 0 [some (zrv x0), some (zI x1), some (zI x2), none, none] [] h (zoU r) h' := by
  unfold zm176 at H
  refine zA_aldn rfl rfl rfl ?_
  obtain ⟨p21, i22, e23, c24, H⟩ := zob_e H
  refine zA_gf3 rfl rfl e23 c24 ?_
  refine zA_ldn rfl rfl rfl ?_
  refine zA_ldn rfl rfl rfl ?_
  obtain ⟨p25, i26, j27, e28, c29, c30, e31, H⟩ := zar_e H
  obtain ⟨h32, e33, H⟩ := zlet_e H
  refine zA_ias rfl rfl e28 c29 c30 e31 e33 ?_
  refine zA_aldn rfl rfl rfl ?_
  refine zA_gf3 rfl rfl e23 c24 ?_
  refine zA_ldn rfl rfl rfl ?_
  obtain ⟨p34, i35, j36, v41, e37, c38, c39, e40, e42, H⟩ := zri_e H
  refine zA_ial rfl rfl e37 c38 c39 e40 e42 ?_
  refine zA_istn2 rfl rfl rfl (zset1 (L' := [some (zrv x0), some (zI x1), some (zI x2), some (zI v41), none]) rfl rfl (zpcV rfl rfl)) ?_
  refine zA_push rfl rfl zkk7 ?_
  refine zA_ist2 rfl rfl rfl (zset1 (L' := [some (zrv x0), some (zI x1), some (zI x2), some (zI v41), some (zI (0 : Int32))]) rfl rfl (zpcV rfl rfl)) ?_
  exact zA_tr (L := [some (zrv x0), none, none, some (zI v41), some (zI (0 : Int32))]) rfl rfl (zmS176_12 zN0 _ _ _ _ _ _ H)
theorem zmE176 (x0 : zq) (x1 : Int32) (x2 : Int32) : zpad (zPr.2.1 176).1 (zil [zrv x0, zI x1, zI x2]) = [some (zrv x0), some (zI x1), some (zI x2), none, none] := by
  simp only [zil_A, zil_I, zil_F, zil_D, zil_N]
  rfl
def zm178_76 (k12 : zq → Int32 → Int32 → Int32 → Int32 → zH → zRs Int32) (x0 : zq) (x1 : Int32) (x2 : Int32) (x3 : Int32) (x4 : Int32) (h : zH) : zRs Int32 :=
  zlet (x4 + (1 : Int32)) fun x21 =>
  k12 x0 x1 x2 x3 x21 h
theorem zmS178_76 {k12 : zq → Int32 → Int32 → Int32 → Int32 → zH → zRs Int32} (hk12 : ∀ (x0 : zq) (x1 : Int32) (x2 : Int32) (x3 : Int32) (x4 : Int32) (h : zH) (r : Int32 ⊕ Nat) (h' : zH), k12 x0 x1 x2 x3 x4 h = some (r, h') → zAt 178 12 [some (zrv x0), some (zI x1), some (zI x2), some (zI x3), some (zI x4), none, none] [] h (zoI r) h') : ∀ (x0 : zq) (x1 : Int32) (x2 : Int32) (x3 : Int32) (x4 : Int32) (h : zH) (r : Int32 ⊕ Nat) (h' : zH), zm178_76 k12 x0 x1 x2 x3 x4 h = some (r, h') → zAt 178 76 [some (zrv x0), some (zI x1), some (zI x2), some (zI x3), some (zI x4), none, none] [] h (zoI r) h' := by
  intro x0 x1 x2 x3 x4 h r h' H
  unfold zm178_76 at H
  obtain ⟨x21, e22, H⟩ := zlet_e H
  refine zA_inc rfl rfl rfl (e22.trans (congrArg (_ + ·) zkk8)) (zset1 (L' := [some (zrv x0), some (zI x1), some (zI x2), some (zI x3), some (zI x21), none, none]) rfl rfl (zpcV rfl rfl)) ?_
  refine zA_go rfl rfl ?_
  exact zA_tr (L := [some (zrv x0), some (zI x1), some (zI x2), some (zI x3), some (zI x21), none, none]) rfl rfl (hk12 _ _ _ _ _ _ _ _ H)
def zm178_74 (k12 : zq → Int32 → Int32 → Int32 → Int32 → zH → zRs Int32) (x0 : zq) (x1 : Int32) (x2 : Int32) (x4 : Int32) (s0 : Int32) (s1 : Int32) (h : zH) : zRs Int32 :=
  zlet (s0 + s1) fun x21 =>
  zm178_76 k12 x0 x1 x2 x21 x4 h
theorem zmS178_74 {k12 : zq → Int32 → Int32 → Int32 → Int32 → zH → zRs Int32} (hk12 : ∀ (x0 : zq) (x1 : Int32) (x2 : Int32) (x3 : Int32) (x4 : Int32) (h : zH) (r : Int32 ⊕ Nat) (h' : zH), k12 x0 x1 x2 x3 x4 h = some (r, h') → zAt 178 12 [some (zrv x0), some (zI x1), some (zI x2), some (zI x3), some (zI x4), none, none] [] h (zoI r) h') : ∀ (x0 : zq) (x1 : Int32) (x2 : Int32) (x4 : Int32) (s0 : Int32) (s1 : Int32) (h : zH) (r : Int32 ⊕ Nat) (h' : zH), zm178_74 k12 x0 x1 x2 x4 s0 s1 h = some (r, h') → zAt 178 74 [some (zrv x0), some (zI x1), some (zI x2), none, some (zI x4), none, none] [zI s1, zI s0] h (zoI r) h' := by
  intro x0 x1 x2 x4 s0 s1 h r h' H
  unfold zm178_74 at H
  refine zA_st (st' := [zI (s0 + s1)]) rfl rfl rfl rfl ?_
  obtain ⟨x21, e22, H⟩ := zlet_e H
  refine zA_istn2 rfl rfl e22 (zset1 (L' := [some (zrv x0), some (zI x1), some (zI x2), some (zI x21), some (zI x4), none, none]) rfl rfl (zpcV rfl rfl)) ?_
  exact zA_tr (L := [some (zrv x0), some (zI x1), some (zI x2), some (zI x21), some (zI x4), none, none]) rfl rfl (zmS178_76 hk12 _ _ _ _ _ _ _ _ H)
def zm178_67 (k12 : zq → Int32 → Int32 → Int32 → Int32 → zH → zRs Int32) (x0 : zq) (x1 : Int32) (x2 : Int32) (x3 : Int32) (x4 : Int32) (x6 : Int32) (s0 : zq) (s1 : Int32) (s2 : Int32) (h : zH) : zRs Int32 :=
  zar 1 s0 s1 h fun p21 i22 j23 =>
  zlet (zsi h p21 i22 j23 s2) fun h28 =>
  if x6 = 0 then
    zm178_74 k12 x0 x1 x2 x4 x3 (1 : Int32) h28
  else
    zm178_74 k12 x0 x1 x2 x4 x3 (0 : Int32) h28
theorem zmS178_67 {k12 : zq → Int32 → Int32 → Int32 → Int32 → zH → zRs Int32} (hk12 : ∀ (x0 : zq) (x1 : Int32) (x2 : Int32) (x3 : Int32) (x4 : Int32) (h : zH) (r : Int32 ⊕ Nat) (h' : zH), k12 x0 x1 x2 x3 x4 h = some (r, h') → zAt 178 12 [some (zrv x0), some (zI x1), some (zI x2), some (zI x3), some (zI x4), none, none] [] h (zoI r) h') : ∀ (x0 : zq) (x1 : Int32) (x2 : Int32) (x3 : Int32) (x4 : Int32) (x6 : Int32) (s0 : zq) (s1 : Int32) (s2 : Int32) (h : zH) (r : Int32 ⊕ Nat) (h' : zH), zm178_67 k12 x0 x1 x2 x3 x4 x6 s0 s1 s2 h = some (r, h') → zAt 178 67 [some (zrv x0), some (zI x1), some (zI x2), some (zI x3), some (zI x4), none, some (zI x6)] [zI s2, zI s1, zrv s0] h (zoI r) h' := by
  intro x0 x1 x2 x3 x4 x6 s0 s1 s2 h r h' H
  unfold zm178_67 at H
  obtain ⟨p21, i22, j23, e24, c25, c26, e27, H⟩ := zar_e H
  obtain ⟨h28, e29, H⟩ := zlet_e H
  refine zA_ias rfl rfl e24 c25 c26 e27 e29 ?_
  refine zA_ldn rfl rfl rfl ?_
  refine zA_ld rfl rfl rfl ?_
  rcases zite_e H with ⟨c30, H⟩ | ⟨c30, H⟩
  · refine zA_brT (c := x6 = 0) rfl rfl rfl c30 ?_
    refine zA_tr (L := [some (zrv x0), some (zI x1), some (zI x2), none, some (zI x4), none, none]) rfl rfl ?_
    refine zA_push rfl rfl zkk5 ?_
    exact zA_tr (L := [some (zrv x0), some (zI x1), some (zI x2), none, some (zI x4), none, none]) rfl rfl (zmS178_74 hk12 _ _ _ _ _ _ _ _ _ H)
  · refine zA_brF (c := x6 = 0) rfl rfl rfl c30 ?_
    refine zA_push rfl rfl zkk7 ?_
    refine zA_go rfl rfl ?_
    exact zA_tr (L := [some (zrv x0), some (zI x1), some (zI x2), none, some (zI x4), none, none]) rfl rfl (zmS178_74 hk12 _ _ _ _ _ _ _ _ _ H)
def zm178_12 (k78 : zq → Int32 → Int32 → zH → zRs Int32) : Nat → zq → Int32 → Int32 → Int32 → Int32 → zH → zRs Int32
  | 0, _, _, _, _, _, _ => none
  | n + 1, x0, x1, x2, x3, x4, h =>
    if (3 : Int32) ≤ x4 then
      k78 x0 x1 x3 h
    else
      zob 12 x0 fun p22 i23 =>
      zri (zr h p22 i23 3) x2 h fun v33 =>
      zlet (((3 : Int32) * v33) + x4) fun x35 =>
      zrb (zr h p22 i23 41) (((3 : Int32) * x1) + x4) h fun v44 =>
      if v44 = 0 then
        zm178_76 (zm178_12 k78 n) x0 x1 x2 x3 x4 h
      else
        zri (zr h p22 i23 12) x35 h fun v54 =>
        if v54 = x2 then
          zri (zr h p22 i23 42) (((3 : Int32) * x1) + x4) h fun v64 =>
          zb (zm177 x0 v64 x2 x4 h) fun x67 h66 =>
          if x67 = 0 then
            zm178_67 (zm178_12 k78 n) x0 x1 x2 x3 x4 x67 (zr h66 p22 i23 12) x35 x2 h66
          else
            zri (zr h66 p22 i23 42) (((3 : Int32) * x1) + x4) h66 fun v76 =>
            zm178_67 (zm178_12 k78 n) x0 x1 x2 x3 x4 x67 (zr h66 p22 i23 12) x35 v76 h66
        else
          zm178_76 (zm178_12 k78 n) x0 x1 x2 x3 x4 h
theorem zmS178_12 {k78 : zq → Int32 → Int32 → zH → zRs Int32} (hk78 : ∀ (x0 : zq) (x1 : Int32) (x3 : Int32) (h : zH) (r : Int32 ⊕ Nat) (h' : zH), k78 x0 x1 x3 h = some (r, h') → zAt 178 78 [some (zrv x0), some (zI x1), none, some (zI x3), none, none, none] [] h (zoI r) h') : ∀ (n : Nat) (x0 : zq) (x1 : Int32) (x2 : Int32) (x3 : Int32) (x4 : Int32) (h : zH) (r : Int32 ⊕ Nat) (h' : zH), zm178_12 k78 n x0 x1 x2 x3 x4 h = some (r, h') → zAt 178 12 [some (zrv x0), some (zI x1), some (zI x2), some (zI x3), some (zI x4), none, none] [] h (zoI r) h' := by
  intro n
  induction n with
  | zero => intro x0 x1 x2 x3 x4 h r h' H; cases H
  | succ n ih =>
    intro x0 x1 x2 x3 x4 h r h' H
    unfold zm178_12 at H
    refine zA_ld rfl rfl rfl ?_
    refine zA_push rfl rfl zkk3 ?_
    rcases zite_e H with ⟨c21, H⟩ | ⟨c21, H⟩
    · refine zA_brT (c := (3 : Int32) ≤ x4) rfl rfl rfl c21 ?_
      exact zA_tr (L := [some (zrv x0), some (zI x1), none, some (zI x3), none, none, none]) rfl rfl (hk78 _ _ _ _ _ _ H)
    · refine zA_brF (c := (3 : Int32) ≤ x4) rfl rfl rfl c21 ?_
      refine zA_push rfl rfl zkk3 ?_
      refine zA_aldn rfl rfl rfl ?_
      obtain ⟨p22, i23, e24, c25, H⟩ := zob_e H
      refine zA_gf3 rfl rfl e24 c25 ?_
      refine zA_ldn rfl rfl rfl ?_
      obtain ⟨p26, i27, j28, v33, e29, c30, c31, e32, e34, H⟩ := zri_e H
      refine zA_ial rfl rfl e29 c30 c31 e32 e34 ?_
      refine zA_st (st' := [zI ((3 : Int32) * v33)]) rfl rfl rfl rfl ?_
      refine zA_ld rfl rfl rfl ?_
      refine zA_st (st' := [zI (((3 : Int32) * v33) + x4)]) rfl rfl rfl rfl ?_
      obtain ⟨x35, e36, H⟩ := zlet_e H
      refine zA_ist2 rfl rfl e36 (zset1 (L' := [some (zrv x0), some (zI x1), some (zI x2), some (zI x3), some (zI x4), some (zI x35), none]) rfl rfl (zpcV rfl rfl)) ?_
      refine zA_aldn rfl rfl rfl ?_
      refine zA_gf3 rfl rfl e24 c25 ?_
      refine zA_push rfl rfl zkk3 ?_
      refine zA_ldn rfl rfl rfl ?_
      refine zA_st (st' := [zI ((3 : Int32) * x1), zrv (zr h p22 i23 41)]) rfl rfl rfl rfl ?_
      refine zA_ld rfl rfl rfl ?_
      refine zA_st (st' := [zI (((3 : Int32) * x1) + x4), zrv (zr h p22 i23 41)]) rfl rfl rfl rfl ?_
      obtain ⟨p37, i38, j39, v44, e40, c41, c42, e43, e45, H⟩ := zrb_e H
      refine zA_bal rfl rfl e40 c41 c42 e43 e45 ?_
      rcases zite_e H with ⟨c46, H⟩ | ⟨c46, H⟩
      · refine zA_brT (c := v44 = 0) rfl rfl rfl c46 ?_
        exact zA_tr (L := [some (zrv x0), some (zI x1), some (zI x2), some (zI x3), some (zI x4), none, none]) rfl rfl (zmS178_76 ih _ _ _ _ _ _ _ _ H)
      · refine zA_brF (c := v44 = 0) rfl rfl rfl c46 ?_
        refine zA_aldn rfl rfl rfl ?_
        refine zA_gf3 rfl rfl e24 c25 ?_
        refine zA_ld rfl rfl rfl ?_
        obtain ⟨p47, i48, j49, v54, e50, c51, c52, e53, e55, H⟩ := zri_e H
        refine zA_ial rfl rfl e50 c51 c52 e53 e55 ?_
        refine zA_ldn rfl rfl rfl ?_
        rcases zite_e H with ⟨c56, H⟩ | ⟨c56, H⟩
        · refine zA_brF' (c := v54 = x2) rfl rfl rfl c56 ?_
          refine zA_aldn rfl rfl rfl ?_
          refine zA_aldn rfl rfl rfl ?_
          refine zA_gf3 rfl rfl e24 c25 ?_
          refine zA_push rfl rfl zkk3 ?_
          refine zA_ldn rfl rfl rfl ?_
          refine zA_st (st' := [zI ((3 : Int32) * x1), zrv (zr h p22 i23 42), zrv x0]) rfl rfl rfl rfl ?_
          refine zA_ld rfl rfl rfl ?_
          refine zA_st (st' := [zI (((3 : Int32) * x1) + x4), zrv (zr h p22 i23 42), zrv x0]) rfl rfl rfl rfl ?_
          obtain ⟨p57, i58, j59, v64, e60, c61, c62, e63, e65, H⟩ := zri_e H
          refine zA_ial rfl rfl e60 c61 c62 e63 e65 ?_
          refine zA_ldn rfl rfl rfl ?_
          refine zA_ld rfl rfl rfl ?_
          rcases zb_e H with ⟨x67, h66, C, H⟩ | ⟨E, h66, C, H⟩
          · refine zA_callV (as := [zrv x0, zI v64, zI x2, zI x4]) (st' := []) rfl rfl rfl (zrcv_Q e24 c25) rfl (zmE177 _ _ _ _) rfl (zmS177 C) ?_
            refine zA_ist2 rfl rfl rfl (zset1 (L' := [some (zrv x0), some (zI x1), some (zI x2), some (zI x3), some (zI x4), some (zI x35), some (zI x67)]) rfl rfl (zpcV rfl rfl)) ?_
            refine zA_aldn rfl rfl rfl ?_
            refine zA_gf3 rfl rfl e24 c25 ?_
            refine zA_ld rfl rfl rfl ?_
            refine zA_ld rfl rfl rfl ?_
            rcases zite_e H with ⟨c68, H⟩ | ⟨c68, H⟩
            · refine zA_brT (c := x67 = 0) rfl rfl rfl c68 ?_
              refine zA_tr (L := [some (zrv x0), some (zI x1), some (zI x2), some (zI x3), some (zI x4), none, some (zI x67)]) rfl rfl ?_
              refine zA_ldn rfl rfl rfl ?_
              exact zA_tr (L := [some (zrv x0), some (zI x1), some (zI x2), some (zI x3), some (zI x4), none, some (zI x67)]) rfl rfl (zmS178_67 ih _ _ _ _ _ _ _ _ _ _ _ _ H)
            · refine zA_brF (c := x67 = 0) rfl rfl rfl c68 ?_
              refine zA_aldn rfl rfl rfl ?_
              refine zA_gf3 rfl rfl e24 c25 ?_
              refine zA_push rfl rfl zkk3 ?_
              refine zA_ldn rfl rfl rfl ?_
              refine zA_st (st' := [zI ((3 : Int32) * x1), zrv (zr h66 p22 i23 42), zI x35, zrv (zr h66 p22 i23 12)]) rfl rfl rfl rfl ?_
              refine zA_ld rfl rfl rfl ?_
              refine zA_st (st' := [zI (((3 : Int32) * x1) + x4), zrv (zr h66 p22 i23 42), zI x35, zrv (zr h66 p22 i23 12)]) rfl rfl rfl rfl ?_
              obtain ⟨p69, i70, j71, v76, e72, c73, c74, e75, e77, H⟩ := zri_e H
              refine zA_ial rfl rfl e72 c73 c74 e75 e77 ?_
              refine zA_go rfl rfl ?_
              exact zA_tr (L := [some (zrv x0), some (zI x1), some (zI x2), some (zI x3), some (zI x4), none, some (zI x67)]) rfl rfl (zmS178_67 ih _ _ _ _ _ _ _ _ _ _ _ _ H)
          · cases H
            exact zA_callX (as := [zrv x0, zI v64, zI x2, zI x4]) (st' := []) rfl rfl (zrcv_Q e24 c25) rfl (zmE177 _ _ _ _) rfl rfl rfl (zmS177 C)
        · refine zA_brT' (c := v54 = x2) rfl rfl rfl c56 ?_
          exact zA_tr (L := [some (zrv x0), some (zI x1), some (zI x2), some (zI x3), some (zI x4), none, none]) rfl rfl (zmS178_76 ih _ _ _ _ _ _ _ _ H)
def zm178_78 (x0 : zq) (x1 : Int32) (x3 : Int32) (h : zH) : zRs Int32 :=
  zob 12 x0 fun p21 i22 =>
  zb (zm176 x0 x1 (3 : Int32) h) fun _ h25 =>
  some (.inl x3, h25)
theorem zmS178_78 : ∀ (x0 : zq) (x1 : Int32) (x3 : Int32) (h : zH) (r : Int32 ⊕ Nat) (h' : zH), zm178_78 x0 x1 x3 h = some (r, h') → zAt 178 78 [some (zrv x0), some (zI x1), none, some (zI x3), none, none, none] [] h (zoI r) h' := by
  intro x0 x1 x3 h r h' H
  unfold zm178_78 at H
  refine zA_aldn rfl rfl rfl ?_
  refine zA_ldn rfl rfl rfl ?_
  refine zA_push rfl rfl zkk3 ?_
  obtain ⟨p21, i22, e23, c24, H⟩ := zob_e H
  rcases zb_e H with ⟨u26, h25, C, H⟩ | ⟨E, h25, C, H⟩
  · refine zA_callU (as := [zrv x0, zI x1, zI (3 : Int32)]) (st' := []) rfl rfl rfl (zrcv_Q e23 c24) rfl (zmE176 _ _ _) rfl (zmS176 C) ?_
    refine zA_ldn rfl rfl rfl ?_
    cases H
    exact zA_ret rfl rfl
  · cases H
    exact zA_callX (as := [zrv x0, zI x1, zI (3 : Int32)]) (st' := []) rfl rfl (zrcv_Q e23 c24) rfl (zmE176 _ _ _) rfl rfl rfl (zmS176 C)
-- 178: ReleaseHouseModel.stops(I)I
def zm178 (x0 : zq) (x1 : Int32) (h : zH) : zRs Int32 :=
  zob 12 x0 fun p21 i22 =>
  zri (zr h p21 i22 31) x1 h fun v32 =>
  zb (zm175 x0 v32 h) fun _ h34 =>
  zm178_12 (zm178_78) zN0 x0 x1 v32 (0 : Int32) (0 : Int32) h34
theorem zmS178 {x0 : zq} {x1 : Int32} {h : zH} {r : Int32 ⊕ Nat} {h' : zH} (H : zm178 x0 x1 h = some (r, h')) : zAt 178 0 [some (zrv x0), some (zI x1), none, none, none, none, none] [] h (zoI r) h' := by
  unfold zm178 at H
  refine zA_aldn rfl rfl rfl ?_
  obtain ⟨p21, i22, e23, c24, H⟩ := zob_e H
  refine zA_gf3 rfl rfl e23 c24 ?_
  refine zA_ldn rfl rfl rfl ?_
  obtain ⟨p25, i26, j27, v32, e28, c29, c30, e31, e33, H⟩ := zri_e H
  refine zA_ial rfl rfl e28 c29 c30 e31 e33 ?_
  refine zA_istn2 rfl rfl rfl (zset1 (L' := [some (zrv x0), some (zI x1), some (zI v32), none, none, none, none]) rfl rfl (zpcV rfl rfl)) ?_
  refine zA_push rfl rfl zkk7 ?_
  refine zA_istn2 rfl rfl rfl (zset1 (L' := [some (zrv x0), some (zI x1), some (zI v32), some (zI (0 : Int32)), none, none, none]) rfl rfl (zpcV rfl rfl)) ?_
  refine zA_aldn rfl rfl rfl ?_
  refine zA_ldn rfl rfl rfl ?_
  rcases zb_e H with ⟨u35, h34, C, H⟩ | ⟨E, h34, C, H⟩
  · refine zA_callU (as := [zrv x0, zI v32]) (st' := []) rfl rfl rfl (zrcv_Q e23 c24) rfl (zmE175 _ _) rfl (zmS175 C) ?_
    refine zA_push rfl rfl zkk7 ?_
    refine zA_ist2 rfl rfl rfl (zset1 (L' := [some (zrv x0), some (zI x1), some (zI v32), some (zI (0 : Int32)), some (zI (0 : Int32)), none, none]) rfl rfl (zpcV rfl rfl)) ?_
    exact zA_tr (L := [some (zrv x0), some (zI x1), some (zI v32), some (zI (0 : Int32)), some (zI (0 : Int32)), none, none]) rfl rfl (zmS178_12 (zmS178_78) zN0 _ _ _ _ _ _ _ _ H)
  · cases H
    exact zA_callX (as := [zrv x0, zI v32]) (st' := []) rfl rfl (zrcv_Q e23 c24) rfl (zmE175 _ _) rfl rfl rfl (zmS175 C)
theorem zmE178 (x0 : zq) (x1 : Int32) : zpad (zPr.2.1 178).1 (zil [zrv x0, zI x1]) = [some (zrv x0), some (zI x1), none, none, none, none, none] := by
  simp only [zil_A, zil_I, zil_F, zil_D, zil_N]
  rfl
def zm174_81 (k2 : zq → Int32 → zH → zRs Unit) (x0 : zq) (x1 : Int32) (s0 : zq) (s1 : Int32) (s2 : Int32) (h : zH) : zRs Unit :=
  zar 1 s0 s1 h fun p21 i22 j23 =>
  zlet (zsi h p21 i22 j23 s2) fun h28 =>
  zlet (x1 + (1 : Int32)) fun x30 =>
  k2 x0 x30 h28
theorem zmS174_81 {k2 : zq → Int32 → zH → zRs Unit} (hk2 : ∀ (x0 : zq) (x1 : Int32) (h : zH) (r : Unit ⊕ Nat) (h' : zH), k2 x0 x1 h = some (r, h') → zAt 174 2 [some (zrv x0), some (zI x1), none] [] h (zoU r) h') : ∀ (x0 : zq) (x1 : Int32) (s0 : zq) (s1 : Int32) (s2 : Int32) (h : zH) (r : Unit ⊕ Nat) (h' : zH), zm174_81 k2 x0 x1 s0 s1 s2 h = some (r, h') → zAt 174 81 [some (zrv x0), some (zI x1), none] [zI s2, zI s1, zrv s0] h (zoU r) h' := by
  intro x0 x1 s0 s1 s2 h r h' H
  unfold zm174_81 at H
  obtain ⟨p21, i22, j23, e24, c25, c26, e27, H⟩ := zar_e H
  obtain ⟨h28, e29, H⟩ := zlet_e H
  refine zA_ias rfl rfl e24 c25 c26 e27 e29 ?_
  obtain ⟨x30, e31, H⟩ := zlet_e H
  refine zA_inc rfl rfl rfl (e31.trans (congrArg (_ + ·) zkk8)) (zset1 (L' := [some (zrv x0), some (zI x30), none]) rfl rfl (zpcV rfl (zcat_rv _))) ?_
  refine zA_go rfl rfl ?_
  exact zA_tr (L := [some (zrv x0), some (zI x30), none]) rfl rfl (hk2 _ _ _ _ _ H)
def zm174_61 (k2 : zq → Int32 → zH → zRs Unit) (x0 : zq) (x1 : Int32) (x2 : Int32) (s0 : zq) (s1 : Int32) (s2 : Int32) (h : zH) : zRs Unit :=
  zar 1 s0 s1 h fun p21 i22 j23 =>
  zlet (zsi h p21 i22 j23 s2) fun h28 =>
  zob 12 x0 fun p30 i31 =>
  if x2 = 0 then
    zri (zr h28 p30 i31 47) (((2 : Int32) * x1) + (1 : Int32)) h28 fun v42 =>
    zm174_81 k2 x0 x1 (zr h28 p30 i31 47) (((2 : Int32) * x1) + (1 : Int32)) v42 h28
  else
    zm174_81 k2 x0 x1 (zr h28 p30 i31 47) (((2 : Int32) * x1) + (1 : Int32)) (0 : Int32) h28
theorem zmS174_61 {k2 : zq → Int32 → zH → zRs Unit} (hk2 : ∀ (x0 : zq) (x1 : Int32) (h : zH) (r : Unit ⊕ Nat) (h' : zH), k2 x0 x1 h = some (r, h') → zAt 174 2 [some (zrv x0), some (zI x1), none] [] h (zoU r) h') : ∀ (x0 : zq) (x1 : Int32) (x2 : Int32) (s0 : zq) (s1 : Int32) (s2 : Int32) (h : zH) (r : Unit ⊕ Nat) (h' : zH), zm174_61 k2 x0 x1 x2 s0 s1 s2 h = some (r, h') → zAt 174 61 [some (zrv x0), some (zI x1), some (zI x2)] [zI s2, zI s1, zrv s0] h (zoU r) h' := by
  intro x0 x1 x2 s0 s1 s2 h r h' H
  unfold zm174_61 at H
  obtain ⟨p21, i22, j23, e24, c25, c26, e27, H⟩ := zar_e H
  obtain ⟨h28, e29, H⟩ := zlet_e H
  refine zA_ias rfl rfl e24 c25 c26 e27 e29 ?_
  refine zA_aldn rfl rfl rfl ?_
  obtain ⟨p30, i31, e32, c33, H⟩ := zob_e H
  refine zA_gf3 rfl rfl e32 c33 ?_
  refine zA_push rfl rfl zkk23 ?_
  refine zA_ldn rfl rfl rfl ?_
  refine zA_st (st' := [zI ((2 : Int32) * x1), zrv (zr h28 p30 i31 47)]) rfl rfl rfl rfl ?_
  refine zA_push rfl rfl zkk5 ?_
  refine zA_st (st' := [zI (((2 : Int32) * x1) + (1 : Int32)), zrv (zr h28 p30 i31 47)]) rfl rfl rfl rfl ?_
  refine zA_ldn rfl rfl rfl ?_
  rcases zite_e H with ⟨c34, H⟩ | ⟨c34, H⟩
  · refine zA_brT (c := x2 = 0) rfl rfl rfl c34 ?_
    refine zA_tr (L := [some (zrv x0), some (zI x1), none]) rfl rfl ?_
    refine zA_aldn rfl rfl rfl ?_
    refine zA_gf3 rfl rfl e32 c33 ?_
    refine zA_push rfl rfl zkk23 ?_
    refine zA_ldn rfl rfl rfl ?_
    refine zA_st (st' := [zI ((2 : Int32) * x1), zrv (zr h28 p30 i31 47), zI (((2 : Int32) * x1) + (1 : Int32)), zrv (zr h28 p30 i31 47)]) rfl rfl rfl rfl ?_
    refine zA_push rfl rfl zkk5 ?_
    refine zA_st (st' := [zI (((2 : Int32) * x1) + (1 : Int32)), zrv (zr h28 p30 i31 47), zI (((2 : Int32) * x1) + (1 : Int32)), zrv (zr h28 p30 i31 47)]) rfl rfl rfl rfl ?_
    obtain ⟨p35, i36, j37, v42, e38, c39, c40, e41, e43, H⟩ := zri_e H
    refine zA_ial rfl rfl e38 c39 c40 e41 e43 ?_
    exact zA_tr (L := [some (zrv x0), some (zI x1), none]) rfl rfl (zmS174_81 hk2 _ _ _ _ _ _ _ _ H)
  · refine zA_brF (c := x2 = 0) rfl rfl rfl c34 ?_
    refine zA_push rfl rfl zkk7 ?_
    refine zA_go rfl rfl ?_
    exact zA_tr (L := [some (zrv x0), some (zI x1), none]) rfl rfl (zmS174_81 hk2 _ _ _ _ _ _ _ _ H)
def zm174_44 (k2 : zq → Int32 → zH → zRs Unit) (x0 : zq) (x1 : Int32) (x2 : Int32) (s0 : zq) (s1 : Int32) (s2 : Int32) (h : zH) : zRs Unit :=
  zob 12 s0 fun p21 i22 =>
  zlet (zsi h p21 i22 45 (s1 + s2)) fun h25 =>
  zob 12 x0 fun p27 i28 =>
  if x2 = 0 then
    zri (zr h25 p27 i28 47) ((2 : Int32) * x1) h25 fun v39 =>
    zm174_61 k2 x0 x1 x2 (zr h25 p27 i28 47) ((2 : Int32) * x1) v39 h25
  else
    zm174_61 k2 x0 x1 x2 (zr h25 p27 i28 47) ((2 : Int32) * x1) (0 : Int32) h25
theorem zmS174_44 {k2 : zq → Int32 → zH → zRs Unit} (hk2 : ∀ (x0 : zq) (x1 : Int32) (h : zH) (r : Unit ⊕ Nat) (h' : zH), k2 x0 x1 h = some (r, h') → zAt 174 2 [some (zrv x0), some (zI x1), none] [] h (zoU r) h') : ∀ (x0 : zq) (x1 : Int32) (x2 : Int32) (s0 : zq) (s1 : Int32) (s2 : Int32) (h : zH) (r : Unit ⊕ Nat) (h' : zH), zm174_44 k2 x0 x1 x2 s0 s1 s2 h = some (r, h') → zAt 174 44 [some (zrv x0), some (zI x1), some (zI x2)] [zI s2, zI s1, zrv s0] h (zoU r) h' := by
  intro x0 x1 x2 s0 s1 s2 h r h' H
  unfold zm174_44 at H
  refine zA_st (st' := [zI (s1 + s2), zrv s0]) rfl rfl rfl rfl ?_
  obtain ⟨p21, i22, e23, c24, H⟩ := zob_e H
  obtain ⟨h25, e26, H⟩ := zlet_e H
  refine zA_pf0 rfl rfl e23 c24 e26 ?_
  refine zA_aldn rfl rfl rfl ?_
  obtain ⟨p27, i28, e29, c30, H⟩ := zob_e H
  refine zA_gf3 rfl rfl e29 c30 ?_
  refine zA_push rfl rfl zkk23 ?_
  refine zA_ldn rfl rfl rfl ?_
  refine zA_st (st' := [zI ((2 : Int32) * x1), zrv (zr h25 p27 i28 47)]) rfl rfl rfl rfl ?_
  refine zA_ldn rfl rfl rfl ?_
  rcases zite_e H with ⟨c31, H⟩ | ⟨c31, H⟩
  · refine zA_brT (c := x2 = 0) rfl rfl rfl c31 ?_
    refine zA_aldn rfl rfl rfl ?_
    refine zA_gf3 rfl rfl e29 c30 ?_
    refine zA_push rfl rfl zkk23 ?_
    refine zA_ldn rfl rfl rfl ?_
    refine zA_st (st' := [zI ((2 : Int32) * x1), zrv (zr h25 p27 i28 47), zI ((2 : Int32) * x1), zrv (zr h25 p27 i28 47)]) rfl rfl rfl rfl ?_
    obtain ⟨p32, i33, j34, v39, e35, c36, c37, e38, e40, H⟩ := zri_e H
    refine zA_ial rfl rfl e35 c36 c37 e38 e40 ?_
    exact zA_tr (L := [some (zrv x0), some (zI x1), some (zI x2)]) rfl rfl (zmS174_61 hk2 _ _ _ _ _ _ _ _ _ H)
  · refine zA_brF (c := x2 = 0) rfl rfl rfl c31 ?_
    refine zA_push rfl rfl zkk7 ?_
    refine zA_go rfl rfl ?_
    exact zA_tr (L := [some (zrv x0), some (zI x1), some (zI x2)]) rfl rfl (zmS174_61 hk2 _ _ _ _ _ _ _ _ _ H)
def zm174_26 (k2 : zq → Int32 → zH → zRs Unit) (x0 : zq) (x1 : Int32) (s0 : Int32) (h : zH) : zRs Unit :=
  zob 12 x0 fun p21 i22 =>
  if s0 = 0 then
    zri (zr h p21 i22 14) x1 h fun v33 =>
    zri (zr h p21 i22 17) x1 h fun v42 =>
    if v33 = v42 then
      zm174_44 k2 x0 x1 s0 x0 (zi h p21 i22 45) (0 : Int32) h
    else
      zm174_44 k2 x0 x1 s0 x0 (zi h p21 i22 45) (1 : Int32) h
  else
    zm174_44 k2 x0 x1 s0 x0 (zi h p21 i22 45) (1 : Int32) h
theorem zmS174_26 {k2 : zq → Int32 → zH → zRs Unit} (hk2 : ∀ (x0 : zq) (x1 : Int32) (h : zH) (r : Unit ⊕ Nat) (h' : zH), k2 x0 x1 h = some (r, h') → zAt 174 2 [some (zrv x0), some (zI x1), none] [] h (zoU r) h') : ∀ (x0 : zq) (x1 : Int32) (s0 : Int32) (h : zH) (r : Unit ⊕ Nat) (h' : zH), zm174_26 k2 x0 x1 s0 h = some (r, h') → zAt 174 26 [some (zrv x0), some (zI x1), none] [zI s0] h (zoU r) h' := by
  intro x0 x1 s0 h r h' H
  unfold zm174_26 at H
  refine zA_istn2 rfl rfl rfl (zset1 (L' := [some (zrv x0), some (zI x1), some (zI s0)]) rfl rfl (zpcV rfl rfl)) ?_
  refine zA_aldn rfl rfl rfl ?_
  refine zA_dup rfl rfl (zcat_rv _) ?_
  obtain ⟨p21, i22, e23, c24, H⟩ := zob_e H
  refine zA_gf0 rfl rfl (Or.inl rfl) e23 c24 ?_
  refine zA_ldn rfl rfl rfl ?_
  rcases zite_e H with ⟨c25, H⟩ | ⟨c25, H⟩
  · refine zA_brF' (c := s0 = 0) rfl rfl rfl c25 ?_
    refine zA_aldn rfl rfl rfl ?_
    refine zA_gf3 rfl rfl e23 c24 ?_
    refine zA_ldn rfl rfl rfl ?_
    obtain ⟨p26, i27, j28, v33, e29, c30, c31, e32, e34, H⟩ := zri_e H
    refine zA_ial rfl rfl e29 c30 c31 e32 e34 ?_
    refine zA_aldn rfl rfl rfl ?_
    refine zA_gf3 rfl rfl e23 c24 ?_
    refine zA_ldn rfl rfl rfl ?_
    obtain ⟨p35, i36, j37, v42, e38, c39, c40, e41, e43, H⟩ := zri_e H
    refine zA_ial rfl rfl e38 c39 c40 e41 e43 ?_
    rcases zite_e H with ⟨c44, H⟩ | ⟨c44, H⟩
    · refine zA_brT (c := v33 = v42) rfl rfl rfl c44 ?_
      refine zA_push rfl rfl zkk7 ?_
      exact zA_tr (L := [some (zrv x0), some (zI x1), some (zI s0)]) rfl rfl (zmS174_44 hk2 _ _ _ _ _ _ _ _ _ H)
    · refine zA_brF (c := v33 = v42) rfl rfl rfl c44 ?_
      refine zA_push rfl rfl zkk5 ?_
      refine zA_go rfl rfl ?_
      exact zA_tr (L := [some (zrv x0), some (zI x1), some (zI s0)]) rfl rfl (zmS174_44 hk2 _ _ _ _ _ _ _ _ _ H)
  · refine zA_brT' (c := s0 = 0) rfl rfl rfl c25 ?_
    refine zA_push rfl rfl zkk5 ?_
    refine zA_go rfl rfl ?_
    exact zA_tr (L := [some (zrv x0), some (zI x1), some (zI s0)]) rfl rfl (zmS174_44 hk2 _ _ _ _ _ _ _ _ _ H)
def zm174_2 : Nat → zq → Int32 → zH → zRs Unit
  | 0, _, _, _ => none
  | n + 1, x0, x1, h =>
    if (12 : Int32) ≤ x1 then
      some (.inl (), h)
    else
      zob 12 x0 fun p22 i23 =>
      zri (zr h p22 i23 12) x1 h fun v33 =>
      zri (zr h p22 i23 15) x1 h fun v42 =>
      if v33 = v42 then
        zri (zr h p22 i23 13) x1 h fun v52 =>
        zri (zr h p22 i23 16) x1 h fun v61 =>
        if v52 = v61 then
          zm174_26 (zm174_2 n) x0 x1 (0 : Int32) h
        else
          zm174_26 (zm174_2 n) x0 x1 (1 : Int32) h
      else
        zm174_26 (zm174_2 n) x0 x1 (1 : Int32) h
theorem zmS174_2 : ∀ (n : Nat) (x0 : zq) (x1 : Int32) (h : zH) (r : Unit ⊕ Nat) (h' : zH), zm174_2 n x0 x1 h = some (r, h') → zAt 174 2 [some (zrv x0), some (zI x1), none] [] h (zoU r) h' := by
  intro n
  induction n with
  | zero => intro x0 x1 h r h' H; cases H
  | succ n ih =>
    intro x0 x1 h r h' H
    unfold zm174_2 at H
    refine zA_ldn rfl rfl rfl ?_
    refine zA_push rfl rfl zkk11 ?_
    rcases zite_e H with ⟨c21, H⟩ | ⟨c21, H⟩
    · refine zA_brT (c := (12 : Int32) ≤ x1) rfl rfl rfl c21 ?_
      refine zA_tr (L := [none, none, none]) rfl rfl ?_
      cases H
      exact zA_ret rfl rfl
    · refine zA_brF (c := (12 : Int32) ≤ x1) rfl rfl rfl c21 ?_
      refine zA_aldn rfl rfl rfl ?_
      obtain ⟨p22, i23, e24, c25, H⟩ := zob_e H
      refine zA_gf3 rfl rfl e24 c25 ?_
      refine zA_ldn rfl rfl rfl ?_
      obtain ⟨p26, i27, j28, v33, e29, c30, c31, e32, e34, H⟩ := zri_e H
      refine zA_ial rfl rfl e29 c30 c31 e32 e34 ?_
      refine zA_aldn rfl rfl rfl ?_
      refine zA_gf3 rfl rfl e24 c25 ?_
      refine zA_ldn rfl rfl rfl ?_
      obtain ⟨p35, i36, j37, v42, e38, c39, c40, e41, e43, H⟩ := zri_e H
      refine zA_ial rfl rfl e38 c39 c40 e41 e43 ?_
      rcases zite_e H with ⟨c44, H⟩ | ⟨c44, H⟩
      · refine zA_brF' (c := v33 = v42) rfl rfl rfl c44 ?_
        refine zA_aldn rfl rfl rfl ?_
        refine zA_gf3 rfl rfl e24 c25 ?_
        refine zA_ldn rfl rfl rfl ?_
        obtain ⟨p45, i46, j47, v52, e48, c49, c50, e51, e53, H⟩ := zri_e H
        refine zA_ial rfl rfl e48 c49 c50 e51 e53 ?_
        refine zA_aldn rfl rfl rfl ?_
        refine zA_gf3 rfl rfl e24 c25 ?_
        refine zA_ldn rfl rfl rfl ?_
        obtain ⟨p54, i55, j56, v61, e57, c58, c59, e60, e62, H⟩ := zri_e H
        refine zA_ial rfl rfl e57 c58 c59 e60 e62 ?_
        rcases zite_e H with ⟨c63, H⟩ | ⟨c63, H⟩
        · refine zA_brT (c := v52 = v61) rfl rfl rfl c63 ?_
          refine zA_push rfl rfl zkk7 ?_
          exact zA_tr (L := [some (zrv x0), some (zI x1), none]) rfl rfl (zmS174_26 ih _ _ _ _ _ _ H)
        · refine zA_brF (c := v52 = v61) rfl rfl rfl c63 ?_
          refine zA_push rfl rfl zkk5 ?_
          refine zA_go rfl rfl ?_
          exact zA_tr (L := [some (zrv x0), some (zI x1), none]) rfl rfl (zmS174_26 ih _ _ _ _ _ _ H)
      · refine zA_brT' (c := v33 = v42) rfl rfl rfl c44 ?_
        refine zA_push rfl rfl zkk5 ?_
        refine zA_go rfl rfl ?_
        exact zA_tr (L := [some (zrv x0), some (zI x1), none]) rfl rfl (zmS174_26 ih _ _ _ _ _ _ H)
-- 174: ReleaseHouseModel.counts()V
def zm174 (x0 : zq) (h : zH) : zRs Unit :=
  zm174_2 zN0 x0 (0 : Int32) h
theorem zmS174 {x0 : zq} {h : zH} {r : Unit ⊕ Nat} {h' : zH} (H : zm174 x0 h = some (r, h')) : zAt 174 0 [some (zrv x0), none, none] [] h (zoU r) h' := by
  unfold zm174 at H
  refine zA_push rfl rfl zkk7 ?_
  refine zA_istn2 rfl rfl rfl (zset1 (L' := [some (zrv x0), some (zI (0 : Int32)), none]) rfl rfl (zpcV rfl (zcat_rv _))) ?_
  exact zA_tr (L := [some (zrv x0), some (zI (0 : Int32)), none]) rfl rfl (zmS174_2 zN0 _ _ _ _ _ H)
theorem zmE174 (x0 : zq) : zpad (zPr.2.1 174).1 (zil [zrv x0]) = [some (zrv x0), none, none] := by
  simp only [zil_A, zil_I, zil_F, zil_D, zil_N]
  rfl
def zm161_14 (x0 : zq) (x1 : Int32) (s0 : zq) (s1 : Int32) (h : zH) : zRs Int32 :=
  zob 12 s0 fun p21 i22 =>
  zlet (zsi h p21 i22 0 s1) fun h25 =>
  zob 12 x0 fun p27 i28 =>
  if (zi h25 p27 i28 0) ≤ 0 then
    zb (zm173 x0 h25) fun _ h32 =>
    zb (zm178 x0 x1 h32) fun x34 h33 =>
    zb (zm174 x0 h33) fun _ h35 =>
    some (.inl x34, h35)
  else
    some (.inl (0 : Int32), h25)
theorem zmS161_14 : ∀ (x0 : zq) (x1 : Int32) (s0 : zq) (s1 : Int32) (h : zH) (r : Int32 ⊕ Nat) (h' : zH), zm161_14 x0 x1 s0 s1 h = some (r, h') → zAt 161 14 [some (zrv x0), some (zI x1), none] [zI s1, zrv s0] h (zoI r) h' := by
  intro x0 x1 s0 s1 h r h' H
  unfold zm161_14 at H
  obtain ⟨p21, i22, e23, c24, H⟩ := zob_e H
  obtain ⟨h25, e26, H⟩ := zlet_e H
  refine zA_pf0 rfl rfl e23 c24 e26 ?_
  refine zA_aldn rfl rfl rfl ?_
  obtain ⟨p27, i28, e29, c30, H⟩ := zob_e H
  refine zA_gf0 rfl rfl (Or.inl rfl) e29 c30 ?_
  rcases zite_e H with ⟨c31, H⟩ | ⟨c31, H⟩
  · refine zA_brT (c := (zi h25 p27 i28 0) ≤ 0) rfl rfl rfl c31 ?_
    refine zA_aldn rfl rfl rfl ?_
    rcases zb_e H with ⟨u37, h32, C, H⟩ | ⟨E, h32, C, H⟩
    · refine zA_callU (as := [zrv x0]) (st' := []) rfl rfl rfl (zrcv_Q e29 c30) rfl (zmE173 _) rfl (zmS173 C) ?_
      refine zA_aldn rfl rfl rfl ?_
      refine zA_ldn rfl rfl rfl ?_
      rcases zb_e H with ⟨x34, h33, C, H⟩ | ⟨E, h33, C, H⟩
      · refine zA_callV (as := [zrv x0, zI x1]) (st' := []) rfl rfl rfl (zrcv_Q e29 c30) rfl (zmE178 _ _) rfl (zmS178 C) ?_
        refine zA_istn2 rfl rfl rfl (zset1 (L' := [some (zrv x0), some (zI x1), some (zI x34)]) rfl rfl (zpcV rfl rfl)) ?_
        refine zA_aldn rfl rfl rfl ?_
        rcases zb_e H with ⟨u36, h35, C, H⟩ | ⟨E, h35, C, H⟩
        · refine zA_callU (as := [zrv x0]) (st' := []) rfl rfl rfl (zrcv_Q e29 c30) rfl (zmE174 _) rfl (zmS174 C) ?_
          refine zA_ldn rfl rfl rfl ?_
          cases H
          exact zA_ret rfl rfl
        · cases H
          exact zA_callX (as := [zrv x0]) (st' := []) rfl rfl (zrcv_Q e29 c30) rfl (zmE174 _) rfl rfl rfl (zmS174 C)
      · cases H
        exact zA_callX (as := [zrv x0, zI x1]) (st' := []) rfl rfl (zrcv_Q e29 c30) rfl (zmE178 _ _) rfl rfl rfl (zmS178 C)
    · cases H
      exact zA_callX (as := [zrv x0]) (st' := []) rfl rfl (zrcv_Q e29 c30) rfl (zmE173 _) rfl rfl rfl (zmS173 C)
  · refine zA_brF (c := (zi h25 p27 i28 0) ≤ 0) rfl rfl rfl c31 ?_
    refine zA_push rfl rfl zkk7 ?_
    cases H
    exact zA_ret rfl rfl
-- 161: ReleaseHouseModel.stop(I)I
def zm161 (x0 : zq) (x1 : Int32) (h : zH) : zRs Int32 :=
  zob 12 x0 fun p21 i22 =>
  zb (zm143 x0 x1 h) fun x26 h25 =>
  if x26 = 0 then
    zm161_14 x0 x1 x0 (1 : Int32) h25
  else
    zb (zm156 x0 x1 h25) fun x29 h28 =>
    if x29 = 0 then
      zm161_14 x0 x1 x0 (0 : Int32) h28
    else
      zm161_14 x0 x1 x0 (2 : Int32) h28
theorem zmS161 {x0 : zq} {x1 : Int32} {h : zH} {r : Int32 ⊕ Nat} {h' : zH} (H : zm161 x0 x1 h = some (r, h')) : zAt 161 0 [some (zrv x0), some (zI x1), none] [] h (zoI r) h' := by
  unfold zm161 at H
  refine zA_aldn rfl rfl rfl ?_
  refine zA_aldn rfl rfl rfl ?_
  refine zA_ldn rfl rfl rfl ?_
  obtain ⟨p21, i22, e23, c24, H⟩ := zob_e H
  rcases zb_e H with ⟨x26, h25, C, H⟩ | ⟨E, h25, C, H⟩
  · refine zA_callV (as := [zrv x0, zI x1]) (st' := [zrv x0]) rfl rfl rfl (zrcv_Q e23 c24) rfl (zmE143 _ _) rfl (zmS143 C) ?_
    rcases zite_e H with ⟨c27, H⟩ | ⟨c27, H⟩
    · refine zA_brF' (c := x26 = 0) rfl rfl rfl c27 ?_
      refine zA_push rfl rfl zkk5 ?_
      refine zA_go rfl rfl ?_
      exact zA_tr (L := [some (zrv x0), some (zI x1), none]) rfl rfl (zmS161_14 _ _ _ _ _ _ _ H)
    · refine zA_brT' (c := x26 = 0) rfl rfl rfl c27 ?_
      refine zA_aldn rfl rfl rfl ?_
      refine zA_ldn rfl rfl rfl ?_
      rcases zb_e H with ⟨x29, h28, C, H⟩ | ⟨E, h28, C, H⟩
      · refine zA_callV (as := [zrv x0, zI x1]) (st' := [zrv x0]) rfl rfl rfl (zrcv_Q e23 c24) rfl (zmE156 _ _) rfl (zmS156 C) ?_
        rcases zite_e H with ⟨c30, H⟩ | ⟨c30, H⟩
        · refine zA_brT (c := x29 = 0) rfl rfl rfl c30 ?_
          refine zA_push rfl rfl zkk7 ?_
          exact zA_tr (L := [some (zrv x0), some (zI x1), none]) rfl rfl (zmS161_14 _ _ _ _ _ _ _ H)
        · refine zA_brF (c := x29 = 0) rfl rfl rfl c30 ?_
          refine zA_push rfl rfl zkk23 ?_
          refine zA_go rfl rfl ?_
          exact zA_tr (L := [some (zrv x0), some (zI x1), none]) rfl rfl (zmS161_14 _ _ _ _ _ _ _ H)
      · cases H
        exact zA_callX (as := [zrv x0, zI x1]) (st' := [zrv x0]) rfl rfl (zrcv_Q e23 c24) rfl (zmE156 _ _) rfl rfl rfl (zmS156 C)
  · cases H
    exact zA_callX (as := [zrv x0, zI x1]) (st' := [zrv x0]) rfl rfl (zrcv_Q e23 c24) rfl (zmE143 _ _) rfl rfl rfl (zmS143 C)
theorem zmE161 (x0 : zq) (x1 : Int32) : zpad (zPr.2.1 161).1 (zil [zrv x0, zI x1]) = [some (zrv x0), some (zI x1), none] := by
  simp only [zil_A, zil_I, zil_F, zil_D, zil_N]
  rfl
-- 61: ReleaseHouse.state(I)I
def zm61 (x0 : zq) (x1 : Int32) (h : zH) : zRs Int32 :=
  zob 11 x0 fun p21 i22 =>
  zlz (zr h p21 i22 2) h fun v30 =>
  zb (zm130 x1 v30 h) fun _ h32 =>
  zlg (zr h32 p21 i22 2) x1 h32 fun v39 =>
  zob 5 v39 fun p41 i42 =>
  some (.inl (zi h32 p41 i42 2), h32)
theorem zmS61 {x0 : zq} {x1 : Int32} {h : zH} {r : Int32 ⊕ Nat} {h' : zH} (H : zm61 x0 x1 h = some (r, h')) : zAt 61 0 [some (zrv x0), some (zI x1)] [] h (zoI r) h' := by
  unfold zm61 at H
  refine zA_ldn rfl rfl rfl ?_
  refine zA_aldn rfl rfl rfl ?_
  obtain ⟨p21, i22, e23, c24, H⟩ := zob_e H
  refine zA_gf3 rfl rfl e23 c24 ?_
  obtain ⟨p25, i26, v30, e27, c28, c29, e31, H⟩ := zlz_e H
  refine zA_l2 rfl rfl rfl e27 c28 c29 e31 ?_
  rcases zb_e H with ⟨u45, h32, C, H⟩ | ⟨E, h32, C, H⟩
  · refine zA_callU (as := [zI x1, zI v30]) (st' := []) rfl rfl rfl rfl rfl (zmE130 _ _) rfl (zmS130 C) ?_
    refine zA_aldn rfl rfl rfl ?_
    refine zA_gf3 rfl rfl e23 c24 ?_
    refine zA_ldn rfl rfl rfl ?_
    obtain ⟨p33, i34, v39, e35, c36, c37, c38, e40, H⟩ := zlg_e H
    refine zA_l3 rfl rfl rfl e35 c36 c37 c38 e40 ?_
    obtain ⟨p41, i42, e43, c44, H⟩ := zob_e H
    refine zA_cast rfl rfl e43 c44 ?_
    refine zA_gf0 rfl rfl (Or.inl rfl) e43 c44 ?_
    cases H
    exact zA_ret rfl rfl
  · cases H
    exact zA_callX (as := [zI x1, zI v30]) (st' := []) rfl rfl rfl rfl (zmE130 _ _) rfl rfl rfl (zmS130 C)
theorem zmE61 (x0 : zq) (x1 : Int32) : zpad (zPr.2.1 61).1 (zil [zrv x0, zI x1]) = [some (zrv x0), some (zI x1)] := by
  simp only [zil_A, zil_I, zil_F, zil_D, zil_N]
  rfl
-- 250: ReleaseHouseLaw.state(LReleaseHouse;I[J)I
def zm250 (x0 : zq) (x1 : Int32) (x2 : zq) (h : zH) : zRs Int32 :=
  zob 11 x0 fun p21 i22 =>
  zbH [(0, 7, 2, 1)] 4 (zm61 x0 x1 h) fun x26 h25 =>
  zar 3 x2 (0 : Int32) h25 fun p27 i28 j29 =>
  zlet (zsl h25 p27 i28 j29 (x26.toInt64)) fun h34 =>
  some (.inl (0 : Int32), h34)
theorem zmS250 {x0 : zq} {x1 : Int32} {x2 : zq} {h : zH} {r : Int32 ⊕ Nat} {h' : zH} (H : zm250 x0 x1 x2 h = some (r, h')) : zAt 250 0 [some (zrv x0), some (zI x1), some (zrv x2), none] [] h (zoI r) h' := by
  unfold zm250 at H
  refine zA_aldn rfl rfl rfl ?_
  refine zA_push rfl rfl zkk7 ?_
  refine zA_aldn rfl rfl rfl ?_
  refine zA_ldn rfl rfl rfl ?_
  obtain ⟨p21, i22, e23, c24, H⟩ := zob_e H
  rcases zbH_e H with ⟨x26, h25, C, H⟩ | ⟨E, h25, c36, C, hc, H⟩
  · refine zA_callV (as := [zrv x0, zI x1]) (st' := [zI (0 : Int32), zrv x2]) rfl rfl rfl (zrcv_Q e23 c24) rfl (zmE61 _ _) rfl (zmS61 C) ?_
    refine zA_st (st' := [zJ (x26.toInt64), zI (0 : Int32), zrv x2]) rfl rfl rfl rfl ?_
    obtain ⟨p27, i28, j29, e30, c31, c32, e33, H⟩ := zar_e H
    obtain ⟨h34, e35, H⟩ := zlet_e H
    refine zA_las rfl rfl e30 c31 c32 e33 e35 ?_
    refine zA_go rfl rfl ?_
    refine zA_tr (L := [none, none, none, none]) rfl rfl ?_
    refine zA_push rfl rfl zkk7 ?_
    cases H
    exact zA_ret rfl rfl
  · cases H
    exact zA_callH (as := [zrv x0, zI x1]) (st' := [zI (0 : Int32), zrv x2]) rfl rfl (zrcv_Q e23 c24) rfl (zmE61 _ _) rfl rfl rfl (List.cons_ne_nil _ _) hc (zmS61 C)
theorem zmE250 (x0 : zq) (x1 : Int32) (x2 : zq) : zpad (zPr.2.1 250).1 (zil [zrv x0, zI x1, zrv x2]) = [some (zrv x0), some (zI x1), some (zrv x2), none] := by
  simp only [zil_A, zil_I, zil_F, zil_D, zil_N]
  rfl
def zm162_8 (x0 : zq) (x1 : Int32) (s0 : zq) (s1 : Int32) (h : zH) : zRs Int32 :=
  zob 12 s0 fun p21 i22 =>
  zlet (zsi h p21 i22 0 s1) fun h25 =>
  zob 12 x0 fun p27 i28 =>
  if (zi h25 p27 i28 0) ≤ 0 then
    zri (zr h25 p27 i28 33) x1 h25 fun v39 =>
    some (.inl v39, h25)
  else
    some (.inl (0 : Int32), h25)
theorem zmS162_8 : ∀ (x0 : zq) (x1 : Int32) (s0 : zq) (s1 : Int32) (h : zH) (r : Int32 ⊕ Nat) (h' : zH), zm162_8 x0 x1 s0 s1 h = some (r, h') → zAt 162 8 [some (zrv x0), some (zI x1)] [zI s1, zrv s0] h (zoI r) h' := by
  intro x0 x1 s0 s1 h r h' H
  unfold zm162_8 at H
  obtain ⟨p21, i22, e23, c24, H⟩ := zob_e H
  obtain ⟨h25, e26, H⟩ := zlet_e H
  refine zA_pf0 rfl rfl e23 c24 e26 ?_
  refine zA_aldn rfl rfl rfl ?_
  obtain ⟨p27, i28, e29, c30, H⟩ := zob_e H
  refine zA_gf0 rfl rfl (Or.inl rfl) e29 c30 ?_
  rcases zite_e H with ⟨c31, H⟩ | ⟨c31, H⟩
  · refine zA_brT (c := (zi h25 p27 i28 0) ≤ 0) rfl rfl rfl c31 ?_
    refine zA_aldn rfl rfl rfl ?_
    refine zA_gf3 rfl rfl e29 c30 ?_
    refine zA_ldn rfl rfl rfl ?_
    obtain ⟨p32, i33, j34, v39, e35, c36, c37, e38, e40, H⟩ := zri_e H
    refine zA_ial rfl rfl e35 c36 c37 e38 e40 ?_
    refine zA_tr (L := [none, none]) rfl rfl ?_
    cases H
    exact zA_ret rfl rfl
  · refine zA_brF (c := (zi h25 p27 i28 0) ≤ 0) rfl rfl rfl c31 ?_
    refine zA_push rfl rfl zkk7 ?_
    refine zA_go rfl rfl ?_
    refine zA_tr (L := [none, none]) rfl rfl ?_
    cases H
    exact zA_ret rfl rfl
-- 162: ReleaseHouseModel.state(I)I
def zm162 (x0 : zq) (x1 : Int32) (h : zH) : zRs Int32 :=
  zob 12 x0 fun p21 i22 =>
  zb (zm143 x0 x1 h) fun x26 h25 =>
  if x26 = 0 then
    zm162_8 x0 x1 x0 (1 : Int32) h25
  else
    zm162_8 x0 x1 x0 (0 : Int32) h25
theorem zmS162 {x0 : zq} {x1 : Int32} {h : zH} {r : Int32 ⊕ Nat} {h' : zH} (H : zm162 x0 x1 h = some (r, h')) : zAt 162 0 [some (zrv x0), some (zI x1)] [] h (zoI r) h' := by
  unfold zm162 at H
  refine zA_aldn rfl rfl rfl ?_
  refine zA_aldn rfl rfl rfl ?_
  refine zA_ldn rfl rfl rfl ?_
  obtain ⟨p21, i22, e23, c24, H⟩ := zob_e H
  rcases zb_e H with ⟨x26, h25, C, H⟩ | ⟨E, h25, C, H⟩
  · refine zA_callV (as := [zrv x0, zI x1]) (st' := [zrv x0]) rfl rfl rfl (zrcv_Q e23 c24) rfl (zmE143 _ _) rfl (zmS143 C) ?_
    rcases zite_e H with ⟨c27, H⟩ | ⟨c27, H⟩
    · refine zA_brT (c := x26 = 0) rfl rfl rfl c27 ?_
      refine zA_push rfl rfl zkk5 ?_
      exact zA_tr (L := [some (zrv x0), some (zI x1)]) rfl rfl (zmS162_8 _ _ _ _ _ _ _ H)
    · refine zA_brF (c := x26 = 0) rfl rfl rfl c27 ?_
      refine zA_push rfl rfl zkk7 ?_
      refine zA_go rfl rfl ?_
      exact zA_tr (L := [some (zrv x0), some (zI x1)]) rfl rfl (zmS162_8 _ _ _ _ _ _ _ H)
  · cases H
    exact zA_callX (as := [zrv x0, zI x1]) (st' := [zrv x0]) rfl rfl (zrcv_Q e23 c24) rfl (zmE143 _ _) rfl rfl rfl (zmS143 C)
theorem zmE162 (x0 : zq) (x1 : Int32) : zpad (zPr.2.1 162).1 (zil [zrv x0, zI x1]) = [some (zrv x0), some (zI x1)] := by
  simp only [zil_A, zil_I, zil_F, zil_D, zil_N]
  rfl
-- 62: ReleaseHouse.at(I)I
def zm62 (x0 : zq) (x1 : Int32) (h : zH) : zRs Int32 :=
  zob 11 x0 fun p21 i22 =>
  zlz (zr h p21 i22 2) h fun v30 =>
  zb (zm130 x1 v30 h) fun _ h32 =>
  zlg (zr h32 p21 i22 2) x1 h32 fun v39 =>
  zob 5 v39 fun p41 i42 =>
  some (.inl (zi h32 p41 i42 3), h32)
theorem zmS62 {x0 : zq} {x1 : Int32} {h : zH} {r : Int32 ⊕ Nat} {h' : zH} (H : zm62 x0 x1 h = some (r, h')) : zAt 62 0 [some (zrv x0), some (zI x1)] [] h (zoI r) h' := by
  unfold zm62 at H
  refine zA_ldn rfl rfl rfl ?_
  refine zA_aldn rfl rfl rfl ?_
  obtain ⟨p21, i22, e23, c24, H⟩ := zob_e H
  refine zA_gf3 rfl rfl e23 c24 ?_
  obtain ⟨p25, i26, v30, e27, c28, c29, e31, H⟩ := zlz_e H
  refine zA_l2 rfl rfl rfl e27 c28 c29 e31 ?_
  rcases zb_e H with ⟨u45, h32, C, H⟩ | ⟨E, h32, C, H⟩
  · refine zA_callU (as := [zI x1, zI v30]) (st' := []) rfl rfl rfl rfl rfl (zmE130 _ _) rfl (zmS130 C) ?_
    refine zA_aldn rfl rfl rfl ?_
    refine zA_gf3 rfl rfl e23 c24 ?_
    refine zA_ldn rfl rfl rfl ?_
    obtain ⟨p33, i34, v39, e35, c36, c37, c38, e40, H⟩ := zlg_e H
    refine zA_l3 rfl rfl rfl e35 c36 c37 c38 e40 ?_
    obtain ⟨p41, i42, e43, c44, H⟩ := zob_e H
    refine zA_cast rfl rfl e43 c44 ?_
    refine zA_gf0 rfl rfl (Or.inl rfl) e43 c44 ?_
    cases H
    exact zA_ret rfl rfl
  · cases H
    exact zA_callX (as := [zI x1, zI v30]) (st' := []) rfl rfl rfl rfl (zmE130 _ _) rfl rfl rfl (zmS130 C)
theorem zmE62 (x0 : zq) (x1 : Int32) : zpad (zPr.2.1 62).1 (zil [zrv x0, zI x1]) = [some (zrv x0), some (zI x1)] := by
  simp only [zil_A, zil_I, zil_F, zil_D, zil_N]
  rfl
-- 251: ReleaseHouseLaw.at(LReleaseHouse;I[J)I
def zm251 (x0 : zq) (x1 : Int32) (x2 : zq) (h : zH) : zRs Int32 :=
  zob 11 x0 fun p21 i22 =>
  zbH [(0, 7, 2, 1)] 4 (zm62 x0 x1 h) fun x26 h25 =>
  zar 3 x2 (0 : Int32) h25 fun p27 i28 j29 =>
  zlet (zsl h25 p27 i28 j29 (x26.toInt64)) fun h34 =>
  some (.inl (0 : Int32), h34)
theorem zmS251 {x0 : zq} {x1 : Int32} {x2 : zq} {h : zH} {r : Int32 ⊕ Nat} {h' : zH} (H : zm251 x0 x1 x2 h = some (r, h')) : zAt 251 0 [some (zrv x0), some (zI x1), some (zrv x2), none] [] h (zoI r) h' := by
  unfold zm251 at H
  refine zA_aldn rfl rfl rfl ?_
  refine zA_push rfl rfl zkk7 ?_
  refine zA_aldn rfl rfl rfl ?_
  refine zA_ldn rfl rfl rfl ?_
  obtain ⟨p21, i22, e23, c24, H⟩ := zob_e H
  rcases zbH_e H with ⟨x26, h25, C, H⟩ | ⟨E, h25, c36, C, hc, H⟩
  · refine zA_callV (as := [zrv x0, zI x1]) (st' := [zI (0 : Int32), zrv x2]) rfl rfl rfl (zrcv_Q e23 c24) rfl (zmE62 _ _) rfl (zmS62 C) ?_
    refine zA_st (st' := [zJ (x26.toInt64), zI (0 : Int32), zrv x2]) rfl rfl rfl rfl ?_
    obtain ⟨p27, i28, j29, e30, c31, c32, e33, H⟩ := zar_e H
    obtain ⟨h34, e35, H⟩ := zlet_e H
    refine zA_las rfl rfl e30 c31 c32 e33 e35 ?_
    refine zA_go rfl rfl ?_
    refine zA_tr (L := [none, none, none, none]) rfl rfl ?_
    refine zA_push rfl rfl zkk7 ?_
    cases H
    exact zA_ret rfl rfl
  · cases H
    exact zA_callH (as := [zrv x0, zI x1]) (st' := [zI (0 : Int32), zrv x2]) rfl rfl (zrcv_Q e23 c24) rfl (zmE62 _ _) rfl rfl rfl (List.cons_ne_nil _ _) hc (zmS62 C)
theorem zmE251 (x0 : zq) (x1 : Int32) (x2 : zq) : zpad (zPr.2.1 251).1 (zil [zrv x0, zI x1, zrv x2]) = [some (zrv x0), some (zI x1), some (zrv x2), none] := by
  simp only [zil_A, zil_I, zil_F, zil_D, zil_N]
  rfl
def zm163_8 (x0 : zq) (x1 : Int32) (s0 : zq) (s1 : Int32) (h : zH) : zRs Int32 :=
  zob 12 s0 fun p21 i22 =>
  zlet (zsi h p21 i22 0 s1) fun h25 =>
  zob 12 x0 fun p27 i28 =>
  if (zi h25 p27 i28 0) ≤ 0 then
    zri (zr h25 p27 i28 34) x1 h25 fun v39 =>
    some (.inl v39, h25)
  else
    some (.inl (0 : Int32), h25)
theorem zmS163_8 : ∀ (x0 : zq) (x1 : Int32) (s0 : zq) (s1 : Int32) (h : zH) (r : Int32 ⊕ Nat) (h' : zH), zm163_8 x0 x1 s0 s1 h = some (r, h') → zAt 163 8 [some (zrv x0), some (zI x1)] [zI s1, zrv s0] h (zoI r) h' := by
  intro x0 x1 s0 s1 h r h' H
  unfold zm163_8 at H
  obtain ⟨p21, i22, e23, c24, H⟩ := zob_e H
  obtain ⟨h25, e26, H⟩ := zlet_e H
  refine zA_pf0 rfl rfl e23 c24 e26 ?_
  refine zA_aldn rfl rfl rfl ?_
  obtain ⟨p27, i28, e29, c30, H⟩ := zob_e H
  refine zA_gf0 rfl rfl (Or.inl rfl) e29 c30 ?_
  rcases zite_e H with ⟨c31, H⟩ | ⟨c31, H⟩
  · refine zA_brT (c := (zi h25 p27 i28 0) ≤ 0) rfl rfl rfl c31 ?_
    refine zA_aldn rfl rfl rfl ?_
    refine zA_gf3 rfl rfl e29 c30 ?_
    refine zA_ldn rfl rfl rfl ?_
    obtain ⟨p32, i33, j34, v39, e35, c36, c37, e38, e40, H⟩ := zri_e H
    refine zA_ial rfl rfl e35 c36 c37 e38 e40 ?_
    refine zA_tr (L := [none, none]) rfl rfl ?_
    cases H
    exact zA_ret rfl rfl
  · refine zA_brF (c := (zi h25 p27 i28 0) ≤ 0) rfl rfl rfl c31 ?_
    refine zA_push rfl rfl zkk7 ?_
    refine zA_go rfl rfl ?_
    refine zA_tr (L := [none, none]) rfl rfl ?_
    cases H
    exact zA_ret rfl rfl
-- 163: ReleaseHouseModel.at(I)I
def zm163 (x0 : zq) (x1 : Int32) (h : zH) : zRs Int32 :=
  zob 12 x0 fun p21 i22 =>
  zb (zm143 x0 x1 h) fun x26 h25 =>
  if x26 = 0 then
    zm163_8 x0 x1 x0 (1 : Int32) h25
  else
    zm163_8 x0 x1 x0 (0 : Int32) h25
theorem zmS163 {x0 : zq} {x1 : Int32} {h : zH} {r : Int32 ⊕ Nat} {h' : zH} (H : zm163 x0 x1 h = some (r, h')) : zAt 163 0 [some (zrv x0), some (zI x1)] [] h (zoI r) h' := by
  unfold zm163 at H
  refine zA_aldn rfl rfl rfl ?_
  refine zA_aldn rfl rfl rfl ?_
  refine zA_ldn rfl rfl rfl ?_
  obtain ⟨p21, i22, e23, c24, H⟩ := zob_e H
  rcases zb_e H with ⟨x26, h25, C, H⟩ | ⟨E, h25, C, H⟩
  · refine zA_callV (as := [zrv x0, zI x1]) (st' := [zrv x0]) rfl rfl rfl (zrcv_Q e23 c24) rfl (zmE143 _ _) rfl (zmS143 C) ?_
    rcases zite_e H with ⟨c27, H⟩ | ⟨c27, H⟩
    · refine zA_brT (c := x26 = 0) rfl rfl rfl c27 ?_
      refine zA_push rfl rfl zkk5 ?_
      exact zA_tr (L := [some (zrv x0), some (zI x1)]) rfl rfl (zmS163_8 _ _ _ _ _ _ _ H)
    · refine zA_brF (c := x26 = 0) rfl rfl rfl c27 ?_
      refine zA_push rfl rfl zkk7 ?_
      refine zA_go rfl rfl ?_
      exact zA_tr (L := [some (zrv x0), some (zI x1)]) rfl rfl (zmS163_8 _ _ _ _ _ _ _ H)
  · cases H
    exact zA_callX (as := [zrv x0, zI x1]) (st' := [zrv x0]) rfl rfl (zrcv_Q e23 c24) rfl (zmE143 _ _) rfl rfl rfl (zmS143 C)
theorem zmE163 (x0 : zq) (x1 : Int32) : zpad (zPr.2.1 163).1 (zil [zrv x0, zI x1]) = [some (zrv x0), some (zI x1)] := by
  simp only [zil_A, zil_I, zil_F, zil_D, zil_N]
  rfl
-- 13: ReleaseHouse$Release.ofNow()I
def zm13 (x0 : zq) (h : zH) : zRs Int32 :=
  zob 5 x0 fun p21 i22 =>
  zob 4 (zr h p21 i22 1) fun p25 i26 =>
  if (zi h p25 i26 3) ≤ (zi h p21 i22 3) then
    some (.inl (-1 : Int32), h)
  else
    zob 4 (zr h p21 i22 1) fun p30 i31 =>
    zri (zr h p30 i31 1) (zi h p21 i22 3) h fun v41 =>
    some (.inl v41, h)
theorem zmS13 {x0 : zq} {h : zH} {r : Int32 ⊕ Nat} {h' : zH} (H : zm13 x0 h = some (r, h')) : zAt 13 0 [some (zrv x0)] [] h (zoI r) h' := by
  unfold zm13 at H
  refine zA_aldn rfl rfl rfl ?_
  obtain ⟨p21, i22, e23, c24, H⟩ := zob_e H
  refine zA_gf0 rfl rfl (Or.inl rfl) e23 c24 ?_
  refine zA_aldn rfl rfl rfl ?_
  refine zA_gf3 rfl rfl e23 c24 ?_
  obtain ⟨p25, i26, e27, c28, H⟩ := zob_e H
  refine zA_gf0 rfl rfl (Or.inl rfl) e27 c28 ?_
  rcases zite_e H with ⟨c29, H⟩ | ⟨c29, H⟩
  · refine zA_brT (c := (zi h p25 i26 3) ≤ (zi h p21 i22 3)) rfl rfl rfl c29 ?_
    refine zA_tr (L := [none]) rfl rfl ?_
    refine zA_push rfl rfl zkk6 ?_
    cases H
    exact zA_ret rfl rfl
  · refine zA_brF (c := (zi h p25 i26 3) ≤ (zi h p21 i22 3)) rfl rfl rfl c29 ?_
    refine zA_aldn rfl rfl rfl ?_
    refine zA_gf3 rfl rfl e23 c24 ?_
    obtain ⟨p30, i31, e32, c33, H⟩ := zob_e H
    refine zA_gf3 rfl rfl e32 c33 ?_
    refine zA_aldn rfl rfl rfl ?_
    refine zA_gf0 rfl rfl (Or.inl rfl) e23 c24 ?_
    obtain ⟨p34, i35, j36, v41, e37, c38, c39, e40, e42, H⟩ := zri_e H
    refine zA_ial rfl rfl e37 c38 c39 e40 e42 ?_
    refine zA_go rfl rfl ?_
    refine zA_tr (L := [none]) rfl rfl ?_
    cases H
    exact zA_ret rfl rfl
theorem zmE13 (x0 : zq) : zpad (zPr.2.1 13).1 (zil [zrv x0]) = [some (zrv x0)] := by
  simp only [zil_A, zil_I, zil_F, zil_D, zil_N]
  rfl
-- 12: ReleaseHouse$Release.kindNow()I
def zm12 (x0 : zq) (h : zH) : zRs Int32 :=
  zob 5 x0 fun p21 i22 =>
  zob 4 (zr h p21 i22 1) fun p25 i26 =>
  if (zi h p25 i26 3) ≤ (zi h p21 i22 3) then
    some (.inl (-1 : Int32), h)
  else
    zob 4 (zr h p21 i22 1) fun p30 i31 =>
    zri (zr h p30 i31 0) (zi h p21 i22 3) h fun v41 =>
    some (.inl v41, h)
theorem zmS12 {x0 : zq} {h : zH} {r : Int32 ⊕ Nat} {h' : zH} (H : zm12 x0 h = some (r, h')) : zAt 12 0 [some (zrv x0)] [] h (zoI r) h' := by
  unfold zm12 at H
  refine zA_aldn rfl rfl rfl ?_
  obtain ⟨p21, i22, e23, c24, H⟩ := zob_e H
  refine zA_gf0 rfl rfl (Or.inl rfl) e23 c24 ?_
  refine zA_aldn rfl rfl rfl ?_
  refine zA_gf3 rfl rfl e23 c24 ?_
  obtain ⟨p25, i26, e27, c28, H⟩ := zob_e H
  refine zA_gf0 rfl rfl (Or.inl rfl) e27 c28 ?_
  rcases zite_e H with ⟨c29, H⟩ | ⟨c29, H⟩
  · refine zA_brT (c := (zi h p25 i26 3) ≤ (zi h p21 i22 3)) rfl rfl rfl c29 ?_
    refine zA_tr (L := [none]) rfl rfl ?_
    refine zA_push rfl rfl zkk6 ?_
    cases H
    exact zA_ret rfl rfl
  · refine zA_brF (c := (zi h p25 i26 3) ≤ (zi h p21 i22 3)) rfl rfl rfl c29 ?_
    refine zA_aldn rfl rfl rfl ?_
    refine zA_gf3 rfl rfl e23 c24 ?_
    obtain ⟨p30, i31, e32, c33, H⟩ := zob_e H
    refine zA_gf3 rfl rfl e32 c33 ?_
    refine zA_aldn rfl rfl rfl ?_
    refine zA_gf0 rfl rfl (Or.inl rfl) e23 c24 ?_
    obtain ⟨p34, i35, j36, v41, e37, c38, c39, e40, e42, H⟩ := zri_e H
    refine zA_ial rfl rfl e37 c38 c39 e40 e42 ?_
    refine zA_go rfl rfl ?_
    refine zA_tr (L := [none]) rfl rfl ?_
    cases H
    exact zA_ret rfl rfl
theorem zmE12 (x0 : zq) : zpad (zPr.2.1 12).1 (zil [zrv x0]) = [some (zrv x0)] := by
  simp only [zil_A, zil_I, zil_F, zil_D, zil_N]
  rfl
-- 14: ReleaseHouse$Release.shareNow()I
def zm14 (x0 : zq) (h : zH) : zRs Int32 :=
  zob 5 x0 fun p21 i22 =>
  zb (zm12 x0 h) fun x26 h25 =>
  if x26 = 0 then
    zob 4 (zr h25 p21 i22 1) fun p28 i29 =>
    zri (zr h25 p28 i29 2) (zi h25 p21 i22 3) h25 fun v39 =>
    some (.inl v39, h25)
  else
    some (.inl (0 : Int32), h25)
theorem zmS14 {x0 : zq} {h : zH} {r : Int32 ⊕ Nat} {h' : zH} (H : zm14 x0 h = some (r, h')) : zAt 14 0 [some (zrv x0)] [] h (zoI r) h' := by
  unfold zm14 at H
  refine zA_aldn rfl rfl rfl ?_
  obtain ⟨p21, i22, e23, c24, H⟩ := zob_e H
  rcases zb_e H with ⟨x26, h25, C, H⟩ | ⟨E, h25, C, H⟩
  · refine zA_callV (as := [zrv x0]) (st' := []) rfl rfl rfl (zrcv_Q e23 c24) rfl (zmE12 _) rfl (zmS12 C) ?_
    rcases zite_e H with ⟨c27, H⟩ | ⟨c27, H⟩
    · refine zA_brF' (c := x26 = 0) rfl rfl rfl c27 ?_
      refine zA_aldn rfl rfl rfl ?_
      refine zA_gf3 rfl rfl e23 c24 ?_
      obtain ⟨p28, i29, e30, c31, H⟩ := zob_e H
      refine zA_gf3 rfl rfl e30 c31 ?_
      refine zA_aldn rfl rfl rfl ?_
      refine zA_gf0 rfl rfl (Or.inl rfl) e23 c24 ?_
      obtain ⟨p32, i33, j34, v39, e35, c36, c37, e38, e40, H⟩ := zri_e H
      refine zA_ial rfl rfl e35 c36 c37 e38 e40 ?_
      refine zA_go rfl rfl ?_
      refine zA_tr (L := [none]) rfl rfl ?_
      cases H
      exact zA_ret rfl rfl
    · refine zA_brT' (c := x26 = 0) rfl rfl rfl c27 ?_
      refine zA_tr (L := [none]) rfl rfl ?_
      refine zA_push rfl rfl zkk7 ?_
      cases H
      exact zA_ret rfl rfl
  · cases H
    exact zA_callX (as := [zrv x0]) (st' := []) rfl rfl (zrcv_Q e23 c24) rfl (zmE12 _) rfl rfl rfl (zmS12 C)
theorem zmE14 (x0 : zq) : zpad (zPr.2.1 14).1 (zil [zrv x0]) = [some (zrv x0)] := by
  simp only [zil_A, zil_I, zil_F, zil_D, zil_N]
  rfl
-- 28: ReleaseHouse$Spot.hasNewerThan(LReleaseHouse$Artefact;)Z
def zm28 (x0 : zq) (x1 : zq) (h : zH) : zRs Int32 :=
  zob 9 x0 fun p21 i22 =>
  if (zr h p21 i22 0) = none then
    some (.inl (0 : Int32), h)
  else
    zob 0 (zr h p21 i22 0) fun p26 i27 =>
    zob 0 x1 fun p30 i31 =>
    if (zi h p26 i27 0) ≤ (zi h p30 i31 0) then
      some (.inl (0 : Int32), h)
    else
      some (.inl (1 : Int32), h)
theorem zmS28 {x0 : zq} {x1 : zq} {h : zH} {r : Int32 ⊕ Nat} {h' : zH} (H : zm28 x0 x1 h = some (r, h')) : zAt 28 0 [some (zrv x0), some (zrv x1)] [] h (zoI r) h' := by
  unfold zm28 at H
  refine zA_aldn rfl rfl rfl ?_
  obtain ⟨p21, i22, e23, c24, H⟩ := zob_e H
  refine zA_gf3 rfl rfl e23 c24 ?_
  rcases zite_e H with ⟨c25, H⟩ | ⟨c25, H⟩
  · refine zA_brT (c := (zr h p21 i22 0) = none) rfl rfl zIf_null c25 ?_
    refine zA_tr (L := [none, none]) rfl rfl ?_
    refine zA_push rfl rfl zkk7 ?_
    cases H
    exact zA_ret rfl (zret_Z (by decide))
  · refine zA_brF (c := (zr h p21 i22 0) = none) rfl rfl zIf_null c25 ?_
    refine zA_aldn rfl rfl rfl ?_
    refine zA_gf3 rfl rfl e23 c24 ?_
    obtain ⟨p26, i27, e28, c29, H⟩ := zob_e H
    refine zA_gf0 rfl rfl (Or.inl rfl) e28 c29 ?_
    refine zA_aldn rfl rfl rfl ?_
    obtain ⟨p30, i31, e32, c33, H⟩ := zob_e H
    refine zA_gf0 rfl rfl (Or.inl rfl) e32 c33 ?_
    rcases zite_e H with ⟨c34, H⟩ | ⟨c34, H⟩
    · refine zA_brT (c := (zi h p26 i27 0) ≤ (zi h p30 i31 0)) rfl rfl rfl c34 ?_
      refine zA_tr (L := [none, none]) rfl rfl ?_
      refine zA_push rfl rfl zkk7 ?_
      cases H
      exact zA_ret rfl (zret_Z (by decide))
    · refine zA_brF (c := (zi h p26 i27 0) ≤ (zi h p30 i31 0)) rfl rfl rfl c34 ?_
      refine zA_push rfl rfl zkk5 ?_
      refine zA_go rfl rfl ?_
      refine zA_tr (L := [none, none]) rfl rfl ?_
      cases H
      exact zA_ret rfl (zret_Z (by decide))
theorem zmE28 (x0 : zq) (x1 : zq) : zpad (zPr.2.1 28).1 (zil [zrv x0, zrv x1]) = [some (zrv x0), some (zrv x1)] := by
  simp only [zil_A, zil_I, zil_F, zil_D, zil_N]
  rfl
-- 6: ReleaseHouse$Freeze.holdsFor(LReleaseHouse$Artefact;)Z
def zm6 (x0 : zq) (x1 : zq) (h : zH) : zRs Int32 :=
  zob 3 x0 fun p21 i22 =>
  if (zi h p21 i22 3) = (3 : Int32) then
    some (.inl (1 : Int32), h)
  else
    zob 0 x1 fun p26 i27 =>
    if (zi h p26 i27 8) = 0 then
      if (zi h p21 i22 3) = (2 : Int32) then
        some (.inl (1 : Int32), h)
      else
        if (zi h p26 i27 9) = 0 then
          some (.inl (0 : Int32), h)
        else
          some (.inl (1 : Int32), h)
    else
      some (.inl (0 : Int32), h)
theorem zmS6 {x0 : zq} {x1 : zq} {h : zH} {r : Int32 ⊕ Nat} {h' : zH} (H : zm6 x0 x1 h = some (r, h')) : zAt 6 0 [some (zrv x0), some (zrv x1)] [] h (zoI r) h' := by
  unfold zm6 at H
  refine zA_aldn rfl rfl rfl ?_
  obtain ⟨p21, i22, e23, c24, H⟩ := zob_e H
  refine zA_gf0 rfl rfl (Or.inl rfl) e23 c24 ?_
  refine zA_push rfl rfl zkk3 ?_
  rcases zite_e H with ⟨c25, H⟩ | ⟨c25, H⟩
  · refine zA_brF' (c := (zi h p21 i22 3) = (3 : Int32)) rfl rfl rfl c25 ?_
    refine zA_push rfl rfl zkk5 ?_
    cases H
    exact zA_ret rfl (zret_Z (by decide))
  · refine zA_brT' (c := (zi h p21 i22 3) = (3 : Int32)) rfl rfl rfl c25 ?_
    refine zA_aldn rfl rfl rfl ?_
    obtain ⟨p26, i27, e28, c29, H⟩ := zob_e H
    refine zA_gf0 rfl rfl (Or.inr rfl) e28 c29 ?_
    rcases zite_e H with ⟨c30, H⟩ | ⟨c30, H⟩
    · refine zA_brF' (c := (zi h p26 i27 8) = 0) rfl rfl rfl c30 ?_
      refine zA_aldn rfl rfl rfl ?_
      refine zA_gf0 rfl rfl (Or.inl rfl) e23 c24 ?_
      refine zA_push rfl rfl zkk23 ?_
      rcases zite_e H with ⟨c31, H⟩ | ⟨c31, H⟩
      · refine zA_brT (c := (zi h p21 i22 3) = (2 : Int32)) rfl rfl rfl c31 ?_
        refine zA_tr (L := [none, none]) rfl rfl ?_
        refine zA_push rfl rfl zkk5 ?_
        refine zA_go rfl rfl ?_
        cases H
        exact zA_ret rfl (zret_Z (by decide))
      · refine zA_brF (c := (zi h p21 i22 3) = (2 : Int32)) rfl rfl rfl c31 ?_
        refine zA_aldn rfl rfl rfl ?_
        refine zA_gf0 rfl rfl (Or.inr rfl) e28 c29 ?_
        rcases zite_e H with ⟨c32, H⟩ | ⟨c32, H⟩
        · refine zA_brT (c := (zi h p26 i27 9) = 0) rfl rfl rfl c32 ?_
          refine zA_tr (L := [none, none]) rfl rfl ?_
          refine zA_push rfl rfl zkk7 ?_
          cases H
          exact zA_ret rfl (zret_Z (by decide))
        · refine zA_brF (c := (zi h p26 i27 9) = 0) rfl rfl rfl c32 ?_
          refine zA_tr (L := [none, none]) rfl rfl ?_
          refine zA_push rfl rfl zkk5 ?_
          refine zA_go rfl rfl ?_
          cases H
          exact zA_ret rfl (zret_Z (by decide))
    · refine zA_brT' (c := (zi h p26 i27 8) = 0) rfl rfl rfl c30 ?_
      refine zA_tr (L := [none, none]) rfl rfl ?_
      refine zA_push rfl rfl zkk7 ?_
      cases H
      exact zA_ret rfl (zret_Z (by decide))
theorem zmE6 (x0 : zq) (x1 : zq) : zpad (zPr.2.1 6).1 (zil [zrv x0, zrv x1]) = [some (zrv x0), some (zrv x1)] := by
  simp only [zil_A, zil_I, zil_F, zil_D, zil_N]
  rfl
def zm67_39 (k7 : zq → zq → Int32 → Int32 → zH → zRs Int32) (x0 : zq) (x1 : zq) (x2 : Int32) (x3 : Int32) (h : zH) : zRs Int32 :=
  zlet (x3 + (1 : Int32)) fun x21 =>
  k7 x0 x1 x2 x21 h
theorem zmS67_39 {k7 : zq → zq → Int32 → Int32 → zH → zRs Int32} (hk7 : ∀ (x0 : zq) (x1 : zq) (x2 : Int32) (x3 : Int32) (h : zH) (r : Int32 ⊕ Nat) (h' : zH), k7 x0 x1 x2 x3 h = some (r, h') → zAt 67 7 [some (zrv x0), some (zrv x1), some (zI x2), some (zI x3), none] [] h (zoI r) h') : ∀ (x0 : zq) (x1 : zq) (x2 : Int32) (x3 : Int32) (h : zH) (r : Int32 ⊕ Nat) (h' : zH), zm67_39 k7 x0 x1 x2 x3 h = some (r, h') → zAt 67 39 [some (zrv x0), some (zrv x1), some (zI x2), some (zI x3), none] [] h (zoI r) h' := by
  intro x0 x1 x2 x3 h r h' H
  unfold zm67_39 at H
  obtain ⟨x21, e22, H⟩ := zlet_e H
  refine zA_inc rfl rfl rfl (e22.trans (congrArg (_ + ·) zkk8)) (zset1 (L' := [some (zrv x0), some (zrv x1), some (zI x2), some (zI x21), none]) rfl rfl (zpcV rfl rfl)) ?_
  refine zA_go rfl rfl ?_
  exact zA_tr (L := [some (zrv x0), some (zrv x1), some (zI x2), some (zI x21), none]) rfl rfl (hk7 _ _ _ _ _ _ _ H)
def zm67_7 : Nat → zq → zq → Int32 → Int32 → zH → zRs Int32
  | 0, _, _, _, _, _ => none
  | n + 1, x0, x1, x2, x3, h =>
    zob 11 x0 fun p21 i22 =>
    zlz (zr h p21 i22 3) h fun v30 =>
    if v30 ≤ x3 then
      some (.inl (0 : Int32), h)
    else
      zlg (zr h p21 i22 3) x3 h fun v39 =>
      zob 3 v39 fun p41 i42 =>
      if (zi h p41 i42 0) = x2 then
        if (zi h p21 i22 11) < (zi h p41 i42 1) then
          zm67_39 (zm67_7 n) x0 x1 x2 x3 h
        else
          if (zi h p41 i42 2) < (zi h p21 i22 11) then
            zm67_39 (zm67_7 n) x0 x1 x2 x3 h
          else
            zob 5 x1 fun p48 i49 =>
            zb (zm6 v39 (zr h p48 i49 0) h) fun x53 h52 =>
            if x53 = 0 then
              zm67_39 (zm67_7 n) x0 x1 x2 x3 h52
            else
              some (.inl (1 : Int32), h52)
      else
        zm67_39 (zm67_7 n) x0 x1 x2 x3 h
theorem zmS67_7 : ∀ (n : Nat) (x0 : zq) (x1 : zq) (x2 : Int32) (x3 : Int32) (h : zH) (r : Int32 ⊕ Nat) (h' : zH), zm67_7 n x0 x1 x2 x3 h = some (r, h') → zAt 67 7 [some (zrv x0), some (zrv x1), some (zI x2), some (zI x3), none] [] h (zoI r) h' := by
  intro n
  induction n with
  | zero => intro x0 x1 x2 x3 h r h' H; cases H
  | succ n ih =>
    intro x0 x1 x2 x3 h r h' H
    unfold zm67_7 at H
    refine zA_ldn rfl rfl rfl ?_
    refine zA_aldn rfl rfl rfl ?_
    obtain ⟨p21, i22, e23, c24, H⟩ := zob_e H
    refine zA_gf3 rfl rfl e23 c24 ?_
    obtain ⟨p25, i26, v30, e27, c28, c29, e31, H⟩ := zlz_e H
    refine zA_l2 rfl rfl rfl e27 c28 c29 e31 ?_
    rcases zite_e H with ⟨c32, H⟩ | ⟨c32, H⟩
    · refine zA_brT (c := v30 ≤ x3) rfl rfl rfl c32 ?_
      refine zA_tr (L := [none, none, none, none, none]) rfl rfl ?_
      refine zA_push rfl rfl zkk7 ?_
      cases H
      exact zA_ret rfl (zret_Z (by decide))
    · refine zA_brF (c := v30 ≤ x3) rfl rfl rfl c32 ?_
      refine zA_aldn rfl rfl rfl ?_
      refine zA_gf3 rfl rfl e23 c24 ?_
      refine zA_ldn rfl rfl rfl ?_
      obtain ⟨p33, i34, v39, e35, c36, c37, c38, e40, H⟩ := zlg_e H
      refine zA_l3 rfl rfl rfl e35 c36 c37 c38 e40 ?_
      obtain ⟨p41, i42, e43, c44, H⟩ := zob_e H
      refine zA_cast rfl rfl e43 c44 ?_
      refine zA_ast2 rfl rfl rfl (zset1 (L' := [some (zrv x0), some (zrv x1), some (zI x2), some (zI x3), some (zrv v39)]) (zcat_rv _) rfl (zpcV rfl rfl)) ?_
      refine zA_ald rfl rfl rfl ?_
      refine zA_gf0 rfl rfl (Or.inl rfl) e43 c44 ?_
      refine zA_ldn rfl rfl rfl ?_
      rcases zite_e H with ⟨c45, H⟩ | ⟨c45, H⟩
      · refine zA_brF' (c := (zi h p41 i42 0) = x2) rfl rfl rfl c45 ?_
        refine zA_ald rfl rfl rfl ?_
        refine zA_gf0 rfl rfl (Or.inl rfl) e43 c44 ?_
        refine zA_aldn rfl rfl rfl ?_
        refine zA_gf0 rfl rfl (Or.inl rfl) e23 c24 ?_
        rcases zite_e H with ⟨c46, H⟩ | ⟨c46, H⟩
        · refine zA_brT (c := (zi h p21 i22 11) < (zi h p41 i42 1)) rfl rfl rfl c46 ?_
          exact zA_tr (L := [some (zrv x0), some (zrv x1), some (zI x2), some (zI x3), none]) rfl rfl (zmS67_39 ih _ _ _ _ _ _ _ H)
        · refine zA_brF (c := (zi h p21 i22 11) < (zi h p41 i42 1)) rfl rfl rfl c46 ?_
          refine zA_aldn rfl rfl rfl ?_
          refine zA_gf0 rfl rfl (Or.inl rfl) e23 c24 ?_
          refine zA_ald rfl rfl rfl ?_
          refine zA_gf0 rfl rfl (Or.inl rfl) e43 c44 ?_
          rcases zite_e H with ⟨c47, H⟩ | ⟨c47, H⟩
          · refine zA_brT (c := (zi h p41 i42 2) < (zi h p21 i22 11)) rfl rfl rfl c47 ?_
            exact zA_tr (L := [some (zrv x0), some (zrv x1), some (zI x2), some (zI x3), none]) rfl rfl (zmS67_39 ih _ _ _ _ _ _ _ H)
          · refine zA_brF (c := (zi h p41 i42 2) < (zi h p21 i22 11)) rfl rfl rfl c47 ?_
            refine zA_ald rfl rfl rfl ?_
            refine zA_aldn rfl rfl rfl ?_
            obtain ⟨p48, i49, e50, c51, H⟩ := zob_e H
            refine zA_gf3 rfl rfl e50 c51 ?_
            rcases zb_e H with ⟨x53, h52, C, H⟩ | ⟨E, h52, C, H⟩
            · refine zA_callV (as := [zrv v39, zrv (zr h p48 i49 0)]) (st' := []) rfl rfl rfl (zrcv_Q e43 c44) rfl (zmE6 _ _) rfl (zmS6 C) ?_
              rcases zite_e H with ⟨c54, H⟩ | ⟨c54, H⟩
              · refine zA_brT (c := x53 = 0) rfl rfl rfl c54 ?_
                exact zA_tr (L := [some (zrv x0), some (zrv x1), some (zI x2), some (zI x3), none]) rfl rfl (zmS67_39 ih _ _ _ _ _ _ _ H)
              · refine zA_brF (c := x53 = 0) rfl rfl rfl c54 ?_
                refine zA_push rfl rfl zkk5 ?_
                cases H
                exact zA_ret rfl (zret_Z (by decide))
            · cases H
              exact zA_callX (as := [zrv v39, zrv (zr h p48 i49 0)]) (st' := []) rfl rfl (zrcv_Q e43 c44) rfl (zmE6 _ _) rfl rfl rfl (zmS6 C)
      · refine zA_brT' (c := (zi h p41 i42 0) = x2) rfl rfl rfl c45 ?_
        exact zA_tr (L := [some (zrv x0), some (zrv x1), some (zI x2), some (zI x3), none]) rfl rfl (zmS67_39 ih _ _ _ _ _ _ _ H)
-- 67: ReleaseHouse.isFrozen(LReleaseHouse$Release;I)Z
def zm67 (x0 : zq) (x1 : zq) (x2 : Int32) (h : zH) : zRs Int32 :=
  zob 5 x1 fun p21 i22 =>
  if (zi h p21 i22 6) = 0 then
    zm67_7 zN0 x0 x1 x2 (0 : Int32) h
  else
    some (.inl (0 : Int32), h)
theorem zmS67 {x0 : zq} {x1 : zq} {x2 : Int32} {h : zH} {r : Int32 ⊕ Nat} {h' : zH} (H : zm67 x0 x1 x2 h = some (r, h')) : zAt 67 0 [some (zrv x0), some (zrv x1), some (zI x2), none, none] [] h (zoI r) h' := by
  unfold zm67 at H
  refine zA_aldn rfl rfl rfl ?_
  obtain ⟨p21, i22, e23, c24, H⟩ := zob_e H
  refine zA_gf0 rfl rfl (Or.inr rfl) e23 c24 ?_
  rcases zite_e H with ⟨c25, H⟩ | ⟨c25, H⟩
  · refine zA_brT (c := (zi h p21 i22 6) = 0) rfl rfl rfl c25 ?_
    refine zA_push rfl rfl zkk7 ?_
    refine zA_istn2 rfl rfl rfl (zset1 (L' := [some (zrv x0), some (zrv x1), some (zI x2), some (zI (0 : Int32)), none]) rfl rfl (zpcV rfl rfl)) ?_
    exact zA_tr (L := [some (zrv x0), some (zrv x1), some (zI x2), some (zI (0 : Int32)), none]) rfl rfl (zmS67_7 zN0 _ _ _ _ _ _ _ H)
  · refine zA_brF (c := (zi h p21 i22 6) = 0) rfl rfl rfl c25 ?_
    refine zA_push rfl rfl zkk7 ?_
    cases H
    exact zA_ret rfl (zret_Z (by decide))
theorem zmE67 (x0 : zq) (x1 : zq) (x2 : Int32) : zpad (zPr.2.1 67).1 (zil [zrv x0, zrv x1, zI x2]) = [some (zrv x0), some (zrv x1), some (zI x2), none, none] := by
  simp only [zil_A, zil_I, zil_F, zil_D, zil_N]
  rfl
-- 66: ReleaseHouse.rivalOf(LReleaseHouse$Artefact;LReleaseHouse$Spot;)LReleaseHouse$Release;
def zm66 (x0 : zq) (x1 : zq) (x2 : zq) (h : zH) : zRs zq :=
  zob 9 x2 fun p21 i22 =>
  if (zr h p21 i22 1) = none then
    some (.inl (none : zq), h)
  else
    if (zr h p21 i22 1) = x1 then
      some (.inl (none : zq), h)
    else
      zob 11 x0 fun p27 i28 =>
      zb (zm53 x0 (zr h p21 i22 1) h) fun x32 h31 =>
      some (.inl x32, h31)
theorem zmS66 {x0 : zq} {x1 : zq} {x2 : zq} {h : zH} {r : zq ⊕ Nat} {h' : zH} (H : zm66 x0 x1 x2 h = some (r, h')) : zAt 66 0 [some (zrv x0), some (zrv x1), some (zrv x2)] [] h (zoA r) h' := by
  unfold zm66 at H
  refine zA_aldn rfl rfl rfl ?_
  obtain ⟨p21, i22, e23, c24, H⟩ := zob_e H
  refine zA_gf3 rfl rfl e23 c24 ?_
  rcases zite_e H with ⟨c25, H⟩ | ⟨c25, H⟩
  · refine zA_brT (c := (zr h p21 i22 1) = none) rfl rfl zIf_null c25 ?_
    refine zA_tr (L := [none, none, none]) rfl rfl ?_
    refine zA_push rfl rfl zkk26 ?_
    cases H
    exact zA_ret rfl (zret_A _)
  · refine zA_brF (c := (zr h p21 i22 1) = none) rfl rfl zIf_null c25 ?_
    refine zA_aldn rfl rfl rfl ?_
    refine zA_gf3 rfl rfl e23 c24 ?_
    refine zA_aldn rfl rfl rfl ?_
    rcases zite_e H with ⟨c26, H⟩ | ⟨c26, H⟩
    · refine zA_brF' (c := (zr h p21 i22 1) = x1) rfl rfl zIf_ane c26 ?_
      refine zA_tr (L := [none, none, none]) rfl rfl ?_
      refine zA_push rfl rfl zkk26 ?_
      cases H
      exact zA_ret rfl (zret_A _)
    · refine zA_brT' (c := (zr h p21 i22 1) = x1) rfl rfl zIf_ane c26 ?_
      refine zA_tr (L := [some (zrv x0), none, some (zrv x2)]) rfl rfl ?_
      refine zA_aldn rfl rfl rfl ?_
      refine zA_aldn rfl rfl rfl ?_
      refine zA_gf3 rfl rfl e23 c24 ?_
      obtain ⟨p27, i28, e29, c30, H⟩ := zob_e H
      rcases zb_e H with ⟨x32, h31, C, H⟩ | ⟨E, h31, C, H⟩
      · refine zA_callV (as := [zrv x0, zrv (zr h p21 i22 1)]) (st' := []) rfl rfl rfl (zrcv_Q e29 c30) rfl (zmE53 _ _) rfl (zmS53 C) ?_
        cases H
        exact zA_ret rfl (zret_A _)
      · cases H
        exact zA_callX (as := [zrv x0, zrv (zr h p21 i22 1)]) (st' := []) rfl rfl (zrcv_Q e29 c30) rfl (zmE53 _ _) rfl rfl rfl (zmS53 C)
theorem zmE66 (x0 : zq) (x1 : zq) (x2 : zq) : zpad (zPr.2.1 66).1 (zil [zrv x0, zrv x1, zrv x2]) = [some (zrv x0), some (zrv x1), some (zrv x2)] := by
  simp only [zil_A, zil_I, zil_F, zil_D, zil_N]
  rfl
-- 70: ReleaseHouse.placesFor(I)I
def zm70 (x0 : Int32) (h : zH) : zRs Int32 :=
  if x0 = 0 then
    some (.inl (0 : Int32), h)
  else
    if (50 : Int32) < x0 then
      some (.inl (2 : Int32), h)
    else
      some (.inl (1 : Int32), h)
theorem zmS70 {x0 : Int32} {h : zH} {r : Int32 ⊕ Nat} {h' : zH} (H : zm70 x0 h = some (r, h')) : zAt 70 0 [some (zI x0)] [] h (zoI r) h' := by
  unfold zm70 at H
  refine zA_ldn rfl rfl rfl ?_
  rcases zite_e H with ⟨c21, H⟩ | ⟨c21, H⟩
  · refine zA_brF' (c := x0 = 0) rfl rfl rfl c21 ?_
    refine zA_push rfl rfl zkk7 ?_
    cases H
    exact zA_ret rfl rfl
  · refine zA_brT' (c := x0 = 0) rfl rfl rfl c21 ?_
    refine zA_ldn rfl rfl rfl ?_
    refine zA_push rfl rfl zkk35 ?_
    rcases zite_e H with ⟨c22, H⟩ | ⟨c22, H⟩
    · refine zA_brT (c := (50 : Int32) < x0) rfl rfl rfl c22 ?_
      refine zA_tr (L := [none]) rfl rfl ?_
      refine zA_push rfl rfl zkk23 ?_
      cases H
      exact zA_ret rfl rfl
    · refine zA_brF (c := (50 : Int32) < x0) rfl rfl rfl c22 ?_
      refine zA_push rfl rfl zkk5 ?_
      refine zA_go rfl rfl ?_
      refine zA_tr (L := [none]) rfl rfl ?_
      cases H
      exact zA_ret rfl rfl
theorem zmE70 (x0 : Int32) : zpad (zPr.2.1 70).1 (zil [zI x0]) = [some (zI x0)] := by
  simp only [zil_A, zil_I, zil_F, zil_D, zil_N]
  rfl
def zm69_25 (k4 : zq → Int32 → Int32 → Int32 → zH → zRs Int32) (x0 : zq) (x1 : Int32) (x2 : Int32) (x3 : Int32) (h : zH) : zRs Int32 :=
  zlet (x3 + (1 : Int32)) fun x21 =>
  k4 x0 x1 x2 x21 h
theorem zmS69_25 {k4 : zq → Int32 → Int32 → Int32 → zH → zRs Int32} (hk4 : ∀ (x0 : zq) (x1 : Int32) (x2 : Int32) (x3 : Int32) (h : zH) (r : Int32 ⊕ Nat) (h' : zH), k4 x0 x1 x2 x3 h = some (r, h') → zAt 69 4 [some (zrv x0), some (zI x1), some (zI x2), some (zI x3), none] [] h (zoI r) h') : ∀ (x0 : zq) (x1 : Int32) (x2 : Int32) (x3 : Int32) (h : zH) (r : Int32 ⊕ Nat) (h' : zH), zm69_25 k4 x0 x1 x2 x3 h = some (r, h') → zAt 69 25 [some (zrv x0), some (zI x1), some (zI x2), some (zI x3), none] [] h (zoI r) h' := by
  intro x0 x1 x2 x3 h r h' H
  unfold zm69_25 at H
  obtain ⟨x21, e22, H⟩ := zlet_e H
  refine zA_inc rfl rfl rfl (e22.trans (congrArg (_ + ·) zkk8)) (zset1 (L' := [some (zrv x0), some (zI x1), some (zI x2), some (zI x21), none]) rfl rfl (zpcV rfl rfl)) ?_
  refine zA_go rfl rfl ?_
  exact zA_tr (L := [some (zrv x0), some (zI x1), some (zI x2), some (zI x21), none]) rfl rfl (hk4 _ _ _ _ _ _ _ H)
def zm69_4 : Nat → zq → Int32 → Int32 → Int32 → zH → zRs Int32
  | 0, _, _, _, _, _ => none
  | n + 1, x0, x1, x2, x3, h =>
    if (4 : Int32) ≤ x3 then
      some (.inl x2, h)
    else
      zob 11 x0 fun p22 i23 =>
      zra (zr h p22 i23 6) x3 h fun v33 =>
      zob 8 v33 fun p35 i36 =>
      zra (zr h p35 i36 0) x1 h fun v46 =>
      zob 9 v46 fun p48 i49 =>
      zb (zm70 (zi h p48 i49 2) h) fun x53 h52 =>
      zlet (x2 + x53) fun x54 =>
      if (zr h52 p48 i49 0) = none then
        zm69_25 (zm69_4 n) x0 x1 x54 x3 h52
      else
        zlet (x54 + (2 : Int32)) fun x57 =>
        zm69_25 (zm69_4 n) x0 x1 x57 x3 h52
theorem zmS69_4 : ∀ (n : Nat) (x0 : zq) (x1 : Int32) (x2 : Int32) (x3 : Int32) (h : zH) (r : Int32 ⊕ Nat) (h' : zH), zm69_4 n x0 x1 x2 x3 h = some (r, h') → zAt 69 4 [some (zrv x0), some (zI x1), some (zI x2), some (zI x3), none] [] h (zoI r) h' := by
  intro n
  induction n with
  | zero => intro x0 x1 x2 x3 h r h' H; cases H
  | succ n ih =>
    intro x0 x1 x2 x3 h r h' H
    unfold zm69_4 at H
    refine zA_ldn rfl rfl rfl ?_
    refine zA_push rfl rfl zkk9 ?_
    rcases zite_e H with ⟨c21, H⟩ | ⟨c21, H⟩
    · refine zA_brT (c := (4 : Int32) ≤ x3) rfl rfl rfl c21 ?_
      refine zA_tr (L := [none, none, some (zI x2), none, none]) rfl rfl ?_
      refine zA_ldn rfl rfl rfl ?_
      cases H
      exact zA_ret rfl rfl
    · refine zA_brF (c := (4 : Int32) ≤ x3) rfl rfl rfl c21 ?_
      refine zA_aldn rfl rfl rfl ?_
      obtain ⟨p22, i23, e24, c25, H⟩ := zob_e H
      refine zA_gf3 rfl rfl e24 c25 ?_
      refine zA_ldn rfl rfl rfl ?_
      obtain ⟨p26, i27, j28, v33, e29, c30, c31, e32, e34, H⟩ := zra_e H
      refine zA_aal rfl rfl e29 c30 c31 e32 e34 ?_
      obtain ⟨p35, i36, e37, c38, H⟩ := zob_e H
      refine zA_gf3 rfl rfl e37 c38 ?_
      refine zA_ldn rfl rfl rfl ?_
      obtain ⟨p39, i40, j41, v46, e42, c43, c44, e45, e47, H⟩ := zra_e H
      refine zA_aal rfl rfl e42 c43 c44 e45 e47 ?_
      refine zA_ast2 rfl rfl rfl (zset1 (L' := [some (zrv x0), some (zI x1), some (zI x2), some (zI x3), some (zrv v46)]) (zcat_rv _) rfl (zpcV rfl rfl)) ?_
      refine zA_ldn rfl rfl rfl ?_
      refine zA_ald rfl rfl rfl ?_
      obtain ⟨p48, i49, e50, c51, H⟩ := zob_e H
      refine zA_gf0 rfl rfl (Or.inl rfl) e50 c51 ?_
      rcases zb_e H with ⟨x53, h52, C, H⟩ | ⟨E, h52, C, H⟩
      · refine zA_callV (as := [zI (zi h p48 i49 2)]) (st' := [zI x2]) rfl rfl rfl rfl rfl (zmE70 _) rfl (zmS70 C) ?_
        refine zA_st (st' := [zI (x2 + x53)]) rfl rfl rfl rfl ?_
        obtain ⟨x54, e55, H⟩ := zlet_e H
        refine zA_istn2 rfl rfl e55 (zset1 (L' := [some (zrv x0), some (zI x1), some (zI x54), some (zI x3), some (zrv v46)]) rfl rfl (zpcV rfl rfl)) ?_
        refine zA_ald rfl rfl rfl ?_
        refine zA_gf3 rfl rfl e50 c51 ?_
        rcases zite_e H with ⟨c56, H⟩ | ⟨c56, H⟩
        · refine zA_brT (c := (zr h52 p48 i49 0) = none) rfl rfl zIf_null c56 ?_
          exact zA_tr (L := [some (zrv x0), some (zI x1), some (zI x54), some (zI x3), none]) rfl rfl (zmS69_25 ih _ _ _ _ _ _ _ H)
        · refine zA_brF (c := (zr h52 p48 i49 0) = none) rfl rfl zIf_null c56 ?_
          obtain ⟨x57, e58, H⟩ := zlet_e H
          refine zA_inc rfl rfl rfl (e58.trans (congrArg (_ + ·) zkk36)) (zset1 (L' := [some (zrv x0), some (zI x1), some (zI x57), some (zI x3), some (zrv v46)]) rfl rfl (zpcV rfl rfl)) ?_
          exact zA_tr (L := [some (zrv x0), some (zI x1), some (zI x57), some (zI x3), none]) rfl rfl (zmS69_25 ih _ _ _ _ _ _ _ H)
      · cases H
        exact zA_callX (as := [zI (zi h p48 i49 2)]) (st' := [zI x2]) rfl rfl rfl rfl (zmE70 _) rfl rfl rfl (zmS70 C)
-- 69: ReleaseHouse.placesTaken(I)I
def zm69 (x0 : zq) (x1 : Int32) (h : zH) : zRs Int32 :=
  zm69_4 zN0 x0 x1 (0 : Int32) (0 : Int32) h
theorem zmS69 {x0 : zq} {x1 : Int32} {h : zH} {r : Int32 ⊕ Nat} {h' : zH} (H : zm69 x0 x1 h = some (r, h')) : zAt 69 0 [some (zrv x0), some (zI x1), none, none, none] [] h (zoI r) h' := by
  unfold zm69 at H
  refine zA_push rfl rfl zkk7 ?_
  refine zA_istn2 rfl rfl rfl (zset1 (L' := [some (zrv x0), some (zI x1), some (zI (0 : Int32)), none, none]) rfl rfl (zpcV rfl rfl)) ?_
  refine zA_push rfl rfl zkk7 ?_
  refine zA_istn2 rfl rfl rfl (zset1 (L' := [some (zrv x0), some (zI x1), some (zI (0 : Int32)), some (zI (0 : Int32)), none]) rfl rfl (zpcV rfl rfl)) ?_
  exact zA_tr (L := [some (zrv x0), some (zI x1), some (zI (0 : Int32)), some (zI (0 : Int32)), none]) rfl rfl (zmS69_4 zN0 _ _ _ _ _ _ _ H)
theorem zmE69 (x0 : zq) (x1 : Int32) : zpad (zPr.2.1 69).1 (zil [zrv x0, zI x1]) = [some (zrv x0), some (zI x1), none, none, none] := by
  simp only [zil_A, zil_I, zil_F, zil_D, zil_N]
  rfl
-- 71: ReleaseHouse.placesIn(I)I
def zm71 (x0 : zq) (x1 : Int32) (h : zH) : zRs Int32 :=
  zob 11 x0 fun p21 i22 =>
  zri (zr h p21 i22 8) x1 h fun v32 =>
  zb (zm292 v32 h) fun x35 h34 =>
  zri (zr h34 p21 i22 9) x1 h34 fun v43 =>
  some (.inl (((4 : Int32) * ((3 : Int32) - x35)) + v43), h34)
theorem zmS71 {x0 : zq} {x1 : Int32} {h : zH} {r : Int32 ⊕ Nat} {h' : zH} (H : zm71 x0 x1 h = some (r, h')) : zAt 71 0 [some (zrv x0), some (zI x1)] [] h (zoI r) h' := by
  unfold zm71 at H
  refine zA_push rfl rfl zkk9 ?_
  refine zA_push rfl rfl zkk3 ?_
  refine zA_aldn rfl rfl rfl ?_
  obtain ⟨p21, i22, e23, c24, H⟩ := zob_e H
  refine zA_gf3 rfl rfl e23 c24 ?_
  refine zA_ldn rfl rfl rfl ?_
  obtain ⟨p25, i26, j27, v32, e28, c29, c30, e31, e33, H⟩ := zri_e H
  refine zA_ial rfl rfl e28 c29 c30 e31 e33 ?_
  rcases zb_e H with ⟨x35, h34, C, H⟩ | ⟨E, h34, C, H⟩
  · refine zA_callV (as := [zI v32]) (st' := [zI (3 : Int32), zI (4 : Int32)]) rfl rfl rfl rfl rfl (zmE292 _) rfl (zmS292 C) ?_
    refine zA_st (st' := [zI ((3 : Int32) - x35), zI (4 : Int32)]) rfl rfl rfl rfl ?_
    refine zA_st (st' := [zI ((4 : Int32) * ((3 : Int32) - x35))]) rfl rfl rfl rfl ?_
    refine zA_aldn rfl rfl rfl ?_
    refine zA_gf3 rfl rfl e23 c24 ?_
    refine zA_ldn rfl rfl rfl ?_
    obtain ⟨p36, i37, j38, v43, e39, c40, c41, e42, e44, H⟩ := zri_e H
    refine zA_ial rfl rfl e39 c40 c41 e42 e44 ?_
    refine zA_st (st' := [zI (((4 : Int32) * ((3 : Int32) - x35)) + v43)]) rfl rfl rfl rfl ?_
    cases H
    exact zA_ret rfl rfl
  · cases H
    exact zA_callX (as := [zI v32]) (st' := [zI (3 : Int32), zI (4 : Int32)]) rfl rfl rfl rfl (zmE292 _) rfl rfl rfl (zmS292 C)
theorem zmE71 (x0 : zq) (x1 : Int32) : zpad (zPr.2.1 71).1 (zil [zrv x0, zI x1]) = [some (zrv x0), some (zI x1)] := by
  simp only [zil_A, zil_I, zil_F, zil_D, zil_N]
  rfl
def zm68_79 (k49 : Int32 → zq → zq → Int32 → Int32 → zH → zRs Int32) (x2 : Int32) (x4 : zq) (x5 : zq) (x9 : Int32) (x10 : Int32) (h : zH) : zRs Int32 :=
  zlet (x10 + (1 : Int32)) fun x21 =>
  k49 x2 x4 x5 x9 x21 h
theorem zmS68_79 {k49 : Int32 → zq → zq → Int32 → Int32 → zH → zRs Int32} (hk49 : ∀ (x2 : Int32) (x4 : zq) (x5 : zq) (x9 : Int32) (x10 : Int32) (h : zH) (r : Int32 ⊕ Nat) (h' : zH), k49 x2 x4 x5 x9 x10 h = some (r, h') → zAt 68 49 [none, none, some (zI x2), none, some (zrv x4), some (zrv x5), none, none, none, some (zI x9), some (zI x10), none, none] [] h (zoI r) h') : ∀ (x2 : Int32) (x4 : zq) (x5 : zq) (x9 : Int32) (x10 : Int32) (h : zH) (r : Int32 ⊕ Nat) (h' : zH), zm68_79 k49 x2 x4 x5 x9 x10 h = some (r, h') → zAt 68 79 [none, none, some (zI x2), none, some (zrv x4), some (zrv x5), none, none, none, some (zI x9), some (zI x10), none, none] [] h (zoI r) h' := by
  intro x2 x4 x5 x9 x10 h r h' H
  unfold zm68_79 at H
  obtain ⟨x21, e22, H⟩ := zlet_e H
  refine zA_inc rfl rfl rfl (e22.trans (congrArg (_ + ·) zkk8)) (zset1 (L' := [none, none, some (zI x2), none, some (zrv x4), some (zrv x5), none, none, none, some (zI x9), some (zI x21), none, none]) rfl rfl (zpcV rfl rfl)) ?_
  refine zA_go rfl rfl ?_
  exact zA_tr (L := [none, none, some (zI x2), none, some (zrv x4), some (zrv x5), none, none, none, some (zI x9), some (zI x21), none, none]) rfl rfl (hk49 _ _ _ _ _ _ _ _ H)
def zm68_67 (k49 : Int32 → zq → zq → Int32 → Int32 → zH → zRs Int32) (x2 : Int32) (x4 : zq) (x5 : zq) (x9 : Int32) (x10 : Int32) (x11 : zq) (s0 : Int32) (h : zH) : zRs Int32 :=
  if x10 = x2 then
    zm68_79 k49 x2 x4 x5 x9 x10 h
  else
    if s0 = 0 then
      zob 9 x11 fun p23 i24 =>
      zb (zm70 (zi h p23 i24 2) h) fun x28 h27 =>
      zlet (x9 + x28) fun x29 =>
      zm68_79 k49 x2 x4 x5 x29 x10 h27
    else
      zm68_79 k49 x2 x4 x5 x9 x10 h
theorem zmS68_67 {k49 : Int32 → zq → zq → Int32 → Int32 → zH → zRs Int32} (hk49 : ∀ (x2 : Int32) (x4 : zq) (x5 : zq) (x9 : Int32) (x10 : Int32) (h : zH) (r : Int32 ⊕ Nat) (h' : zH), k49 x2 x4 x5 x9 x10 h = some (r, h') → zAt 68 49 [none, none, some (zI x2), none, some (zrv x4), some (zrv x5), none, none, none, some (zI x9), some (zI x10), none, none] [] h (zoI r) h') : ∀ (x2 : Int32) (x4 : zq) (x5 : zq) (x9 : Int32) (x10 : Int32) (x11 : zq) (s0 : Int32) (h : zH) (r : Int32 ⊕ Nat) (h' : zH), zm68_67 k49 x2 x4 x5 x9 x10 x11 s0 h = some (r, h') → zAt 68 67 [none, none, some (zI x2), none, some (zrv x4), some (zrv x5), none, none, none, some (zI x9), some (zI x10), some (zrv x11), none] [zI s0] h (zoI r) h' := by
  intro x2 x4 x5 x9 x10 x11 s0 h r h' H
  unfold zm68_67 at H
  refine zA_ist2 rfl rfl rfl (zset1 (L' := [none, none, some (zI x2), none, some (zrv x4), some (zrv x5), none, none, none, some (zI x9), some (zI x10), some (zrv x11), some (zI s0)]) rfl rfl (zpcV rfl (zcat_rv _))) ?_
  refine zA_ld rfl rfl rfl ?_
  refine zA_ldn rfl rfl rfl ?_
  rcases zite_e H with ⟨c21, H⟩ | ⟨c21, H⟩
  · refine zA_brT (c := x10 = x2) rfl rfl rfl c21 ?_
    exact zA_tr (L := [none, none, some (zI x2), none, some (zrv x4), some (zrv x5), none, none, none, some (zI x9), some (zI x10), none, none]) rfl rfl (zmS68_79 hk49 _ _ _ _ _ _ _ _ H)
  · refine zA_brF (c := x10 = x2) rfl rfl rfl c21 ?_
    refine zA_ld rfl rfl rfl ?_
    rcases zite_e H with ⟨c22, H⟩ | ⟨c22, H⟩
    · refine zA_brF' (c := s0 = 0) rfl rfl rfl c22 ?_
      refine zA_ld rfl rfl rfl ?_
      refine zA_ald rfl rfl rfl ?_
      obtain ⟨p23, i24, e25, c26, H⟩ := zob_e H
      refine zA_gf0 rfl rfl (Or.inl rfl) e25 c26 ?_
      rcases zb_e H with ⟨x28, h27, C, H⟩ | ⟨E, h27, C, H⟩
      · refine zA_callV (as := [zI (zi h p23 i24 2)]) (st' := [zI x9]) rfl rfl rfl rfl rfl (zmE70 _) rfl (zmS70 C) ?_
        refine zA_st (st' := [zI (x9 + x28)]) rfl rfl rfl rfl ?_
        obtain ⟨x29, e30, H⟩ := zlet_e H
        refine zA_ist2 rfl rfl e30 (zset1 (L' := [none, none, some (zI x2), none, some (zrv x4), some (zrv x5), none, none, none, some (zI x29), some (zI x10), some (zrv x11), some (zI s0)]) rfl rfl (zpcN rfl)) ?_
        exact zA_tr (L := [none, none, some (zI x2), none, some (zrv x4), some (zrv x5), none, none, none, some (zI x29), some (zI x10), none, none]) rfl rfl (zmS68_79 hk49 _ _ _ _ _ _ _ _ H)
      · cases H
        exact zA_callX (as := [zI (zi h p23 i24 2)]) (st' := [zI x9]) rfl rfl rfl rfl (zmE70 _) rfl rfl rfl (zmS70 C)
    · refine zA_brT' (c := s0 = 0) rfl rfl rfl c22 ?_
      exact zA_tr (L := [none, none, some (zI x2), none, some (zrv x4), some (zrv x5), none, none, none, some (zI x9), some (zI x10), none, none]) rfl rfl (zmS68_79 hk49 _ _ _ _ _ _ _ _ H)
def zm68_49 (k81 : Int32 → zH → zRs Int32) : Nat → Int32 → zq → zq → Int32 → Int32 → zH → zRs Int32
  | 0, _, _, _, _, _, _ => none
  | n + 1, x2, x4, x5, x9, x10, h =>
    if (3 : Int32) ≤ x10 then
      k81 x9 h
    else
      zob 8 x5 fun p22 i23 =>
      zra (zr h p22 i23 0) x10 h fun v33 =>
      if x4 = none then
        zm68_67 (zm68_49 k81 n) x2 x4 x5 x9 x10 v33 (0 : Int32) h
      else
        zob 9 v33 fun p36 i37 =>
        zob 5 x4 fun p40 i41 =>
        if (zr h p36 i37 1) = (zr h p40 i41 0) then
          zm68_67 (zm68_49 k81 n) x2 x4 x5 x9 x10 v33 (1 : Int32) h
        else
          zm68_67 (zm68_49 k81 n) x2 x4 x5 x9 x10 v33 (0 : Int32) h
theorem zmS68_49 {k81 : Int32 → zH → zRs Int32} (hk81 : ∀ (x9 : Int32) (h : zH) (r : Int32 ⊕ Nat) (h' : zH), k81 x9 h = some (r, h') → zAt 68 81 [none, none, none, none, none, none, none, none, none, some (zI x9), none, none, none] [] h (zoI r) h') : ∀ (n : Nat) (x2 : Int32) (x4 : zq) (x5 : zq) (x9 : Int32) (x10 : Int32) (h : zH) (r : Int32 ⊕ Nat) (h' : zH), zm68_49 k81 n x2 x4 x5 x9 x10 h = some (r, h') → zAt 68 49 [none, none, some (zI x2), none, some (zrv x4), some (zrv x5), none, none, none, some (zI x9), some (zI x10), none, none] [] h (zoI r) h' := by
  intro n
  induction n with
  | zero => intro x2 x4 x5 x9 x10 h r h' H; cases H
  | succ n ih =>
    intro x2 x4 x5 x9 x10 h r h' H
    unfold zm68_49 at H
    refine zA_ld rfl rfl rfl ?_
    refine zA_push rfl rfl zkk3 ?_
    rcases zite_e H with ⟨c21, H⟩ | ⟨c21, H⟩
    · refine zA_brT (c := (3 : Int32) ≤ x10) rfl rfl rfl c21 ?_
      exact zA_tr (L := [none, none, none, none, none, none, none, none, none, some (zI x9), none, none, none]) rfl rfl (hk81 _ _ _ _ H)
    · refine zA_brF (c := (3 : Int32) ≤ x10) rfl rfl rfl c21 ?_
      refine zA_ald rfl rfl rfl ?_
      obtain ⟨p22, i23, e24, c25, H⟩ := zob_e H
      refine zA_gf3 rfl rfl e24 c25 ?_
      refine zA_ld rfl rfl rfl ?_
      obtain ⟨p26, i27, j28, v33, e29, c30, c31, e32, e34, H⟩ := zra_e H
      refine zA_aal rfl rfl e29 c30 c31 e32 e34 ?_
      refine zA_ast2 rfl rfl rfl (zset1 (L' := [none, none, some (zI x2), none, some (zrv x4), some (zrv x5), none, none, none, some (zI x9), some (zI x10), some (zrv v33), none]) (zcat_rv _) rfl (zpcV rfl rfl)) ?_
      refine zA_ald rfl rfl rfl ?_
      rcases zite_e H with ⟨c35, H⟩ | ⟨c35, H⟩
      · refine zA_brT (c := x4 = none) rfl rfl zIf_null c35 ?_
        refine zA_push rfl rfl zkk7 ?_
        exact zA_tr (L := [none, none, some (zI x2), none, some (zrv x4), some (zrv x5), none, none, none, some (zI x9), some (zI x10), some (zrv v33), none]) rfl rfl (zmS68_67 ih _ _ _ _ _ _ _ _ _ _ H)
      · refine zA_brF (c := x4 = none) rfl rfl zIf_null c35 ?_
        refine zA_ald rfl rfl rfl ?_
        obtain ⟨p36, i37, e38, c39, H⟩ := zob_e H
        refine zA_gf3 rfl rfl e38 c39 ?_
        refine zA_ald rfl rfl rfl ?_
        obtain ⟨p40, i41, e42, c43, H⟩ := zob_e H
        refine zA_gf3 rfl rfl e42 c43 ?_
        rcases zite_e H with ⟨c44, H⟩ | ⟨c44, H⟩
        · refine zA_brF' (c := (zr h p36 i37 1) = (zr h p40 i41 0)) rfl rfl zIf_ane c44 ?_
          refine zA_push rfl rfl zkk5 ?_
          refine zA_go rfl rfl ?_
          exact zA_tr (L := [none, none, some (zI x2), none, some (zrv x4), some (zrv x5), none, none, none, some (zI x9), some (zI x10), some (zrv v33), none]) rfl rfl (zmS68_67 ih _ _ _ _ _ _ _ _ _ _ H)
        · refine zA_brT' (c := (zr h p36 i37 1) = (zr h p40 i41 0)) rfl rfl zIf_ane c44 ?_
          refine zA_push rfl rfl zkk7 ?_
          exact zA_tr (L := [none, none, some (zI x2), none, some (zrv x4), some (zrv x5), none, none, none, some (zI x9), some (zI x10), some (zrv v33), none]) rfl rfl (zmS68_67 ih _ _ _ _ _ _ _ _ _ _ H)
def zm68_81 (x9 : Int32) (h : zH) : zRs Int32 :=
  if (4 : Int32) < x9 then
    some (.inl (0 : Int32), h)
  else
    some (.inl (1 : Int32), h)
theorem zmS68_81 : ∀ (x9 : Int32) (h : zH) (r : Int32 ⊕ Nat) (h' : zH), zm68_81 x9 h = some (r, h') → zAt 68 81 [none, none, none, none, none, none, none, none, none, some (zI x9), none, none, none] [] h (zoI r) h' := by
  intro x9 h r h' H
  unfold zm68_81 at H
  refine zA_ld rfl rfl rfl ?_
  refine zA_push rfl rfl zkk9 ?_
  rcases zite_e H with ⟨c21, H⟩ | ⟨c21, H⟩
  · refine zA_brT (c := (4 : Int32) < x9) rfl rfl rfl c21 ?_
    refine zA_tr (L := [none, none, none, none, none, none, none, none, none, none, none, none, none]) rfl rfl ?_
    refine zA_push rfl rfl zkk7 ?_
    cases H
    exact zA_ret rfl (zret_Z (by decide))
  · refine zA_brF (c := (4 : Int32) < x9) rfl rfl rfl c21 ?_
    refine zA_push rfl rfl zkk5 ?_
    refine zA_go rfl rfl ?_
    refine zA_tr (L := [none, none, none, none, none, none, none, none, none, none, none, none, none]) rfl rfl ?_
    cases H
    exact zA_ret rfl (zret_Z (by decide))
def zm68_40 (x2 : Int32) (x3 : Int32) (x4 : zq) (x5 : zq) (h : zH) : zRs Int32 :=
  if x3 = 0 then
    some (.inl (1 : Int32), h)
  else
    zb (zm70 x3 h) fun x23 h22 =>
    zm68_49 (zm68_81) zN0 x2 x4 x5 x23 (0 : Int32) h22
theorem zmS68_40 : ∀ (x2 : Int32) (x3 : Int32) (x4 : zq) (x5 : zq) (h : zH) (r : Int32 ⊕ Nat) (h' : zH), zm68_40 x2 x3 x4 x5 h = some (r, h') → zAt 68 40 [none, none, some (zI x2), some (zI x3), some (zrv x4), some (zrv x5), none, none, none, none, none, none, none] [] h (zoI r) h' := by
  intro x2 x3 x4 x5 h r h' H
  unfold zm68_40 at H
  refine zA_ldn rfl rfl rfl ?_
  rcases zite_e H with ⟨c21, H⟩ | ⟨c21, H⟩
  · refine zA_brF' (c := x3 = 0) rfl rfl rfl c21 ?_
    refine zA_push rfl rfl zkk5 ?_
    cases H
    exact zA_ret rfl (zret_Z (by decide))
  · refine zA_brT' (c := x3 = 0) rfl rfl rfl c21 ?_
    refine zA_ldn rfl rfl rfl ?_
    rcases zb_e H with ⟨x23, h22, C, H⟩ | ⟨E, h22, C, H⟩
    · refine zA_callV (as := [zI x3]) (st' := []) rfl rfl rfl rfl rfl (zmE70 _) rfl (zmS70 C) ?_
      refine zA_ist2 rfl rfl rfl (zset1 (L' := [none, none, some (zI x2), some (zI x3), some (zrv x4), some (zrv x5), none, none, none, some (zI x23), none, none, none]) rfl rfl (zpcN rfl)) ?_
      refine zA_push rfl rfl zkk7 ?_
      refine zA_ist2 rfl rfl rfl (zset1 (L' := [none, none, some (zI x2), some (zI x3), some (zrv x4), some (zrv x5), none, none, none, some (zI x23), some (zI (0 : Int32)), none, none]) rfl rfl (zpcV rfl rfl)) ?_
      exact zA_tr (L := [none, none, some (zI x2), none, some (zrv x4), some (zrv x5), none, none, none, some (zI x23), some (zI (0 : Int32)), none, none]) rfl rfl (zmS68_49 (zmS68_81) zN0 _ _ _ _ _ _ _ _ H)
    · cases H
      exact zA_callX (as := [zI x3]) (st' := []) rfl rfl rfl rfl (zmE70 _) rfl rfl rfl (zmS70 C)
def zm68_30 (x0 : zq) (x2 : Int32) (x3 : Int32) (x4 : zq) (x5 : zq) (x7 : Int32) (x8 : Int32) (h : zH) : zRs Int32 :=
  zob 11 x0 fun p21 i22 =>
  zb (zm71 x0 x2 h) fun x26 h25 =>
  if x8 ≤ x26 then
    zm68_40 x2 x3 x4 x5 h25
  else
    if x8 ≤ x7 then
      zm68_40 x2 x3 x4 x5 h25
    else
      some (.inl (0 : Int32), h25)
theorem zmS68_30 : ∀ (x0 : zq) (x2 : Int32) (x3 : Int32) (x4 : zq) (x5 : zq) (x7 : Int32) (x8 : Int32) (h : zH) (r : Int32 ⊕ Nat) (h' : zH), zm68_30 x0 x2 x3 x4 x5 x7 x8 h = some (r, h') → zAt 68 30 [some (zrv x0), none, some (zI x2), some (zI x3), some (zrv x4), some (zrv x5), none, some (zI x7), some (zI x8), none, none, none, none] [] h (zoI r) h' := by
  intro x0 x2 x3 x4 x5 x7 x8 h r h' H
  unfold zm68_30 at H
  refine zA_ld rfl rfl rfl ?_
  refine zA_aldn rfl rfl rfl ?_
  refine zA_ldn rfl rfl rfl ?_
  obtain ⟨p21, i22, e23, c24, H⟩ := zob_e H
  rcases zb_e H with ⟨x26, h25, C, H⟩ | ⟨E, h25, C, H⟩
  · refine zA_callV (as := [zrv x0, zI x2]) (st' := [zI x8]) rfl rfl rfl (zrcv_Q e23 c24) rfl (zmE71 _ _) rfl (zmS71 C) ?_
    rcases zite_e H with ⟨c27, H⟩ | ⟨c27, H⟩
    · refine zA_brT (c := x8 ≤ x26) rfl rfl rfl c27 ?_
      exact zA_tr (L := [none, none, some (zI x2), some (zI x3), some (zrv x4), some (zrv x5), none, none, none, none, none, none, none]) rfl rfl (zmS68_40 _ _ _ _ _ _ _ H)
    · refine zA_brF (c := x8 ≤ x26) rfl rfl rfl c27 ?_
      refine zA_ld rfl rfl rfl ?_
      refine zA_ld rfl rfl rfl ?_
      rcases zite_e H with ⟨c28, H⟩ | ⟨c28, H⟩
      · refine zA_brT (c := x8 ≤ x7) rfl rfl rfl c28 ?_
        exact zA_tr (L := [none, none, some (zI x2), some (zI x3), some (zrv x4), some (zrv x5), none, none, none, none, none, none, none]) rfl rfl (zmS68_40 _ _ _ _ _ _ _ H)
      · refine zA_brF (c := x8 ≤ x7) rfl rfl rfl c28 ?_
        refine zA_push rfl rfl zkk7 ?_
        cases H
        exact zA_ret rfl (zret_Z (by decide))
  · cases H
    exact zA_callX (as := [zrv x0, zI x2]) (st' := [zI x8]) rfl rfl (zrcv_Q e23 c24) rfl (zmE71 _ _) rfl rfl rfl (zmS71 C)
-- 68: ReleaseHouse.hasRoom(LReleaseHouse$Artefact;IILReleaseHouse$Release;)Z
def zm68 (x0 : zq) (x1 : zq) (x2 : Int32) (x3 : Int32) (x4 : zq) (h : zH) : zRs Int32 :=
  zob 11 x0 fun p21 i22 =>
  zob 0 x1 fun p25 i26 =>
  zra (zr h p21 i22 6) (zi h p25 i26 1) h fun v36 =>
  zob 8 v36 fun p38 i39 =>
  zra (zr h p38 i39 0) x2 h fun v49 =>
  zb (zm69 x0 x2 h) fun x52 h51 =>
  zob 9 v49 fun p53 i54 =>
  zb (zm70 (zi h51 p53 i54 2) h51) fun x58 h57 =>
  zb (zm70 x3 h57) fun x60 h59 =>
  zlet ((x52 - x58) + x60) fun x61 =>
  if x3 = 0 then
    if (zr h59 p53 i54 0) = none then
      zlet (x61 + (2 : Int32)) fun x65 =>
      zm68_30 x0 x2 x3 x4 v36 x52 x65 h59
    else
      zm68_30 x0 x2 x3 x4 v36 x52 x61 h59
  else
    zm68_30 x0 x2 x3 x4 v36 x52 x61 h59
theorem zmS68 {x0 : zq} {x1 : zq} {x2 : Int32} {x3 : Int32} {x4 : zq} {h : zH} {r : Int32 ⊕ Nat} {h' : zH} (H : zm68 x0 x1 x2 x3 x4 h = some (r, h')) : zAt 68 0 [some (zrv x0), some (zrv x1), some (zI x2), some (zI x3), some (zrv x4), none, none, none, none, none, none, none, none] [] h (zoI r) h' := by
  unfold zm68 at H
  refine zA_aldn rfl rfl rfl ?_
  obtain ⟨p21, i22, e23, c24, H⟩ := zob_e H
  refine zA_gf3 rfl rfl e23 c24 ?_
  refine zA_aldn rfl rfl rfl ?_
  obtain ⟨p25, i26, e27, c28, H⟩ := zob_e H
  refine zA_gf0 rfl rfl (Or.inl rfl) e27 c28 ?_
  obtain ⟨p29, i30, j31, v36, e32, c33, c34, e35, e37, H⟩ := zra_e H
  refine zA_aal rfl rfl e32 c33 c34 e35 e37 ?_
  refine zA_ast2 rfl rfl rfl (zset1 (L' := [some (zrv x0), some (zrv x1), some (zI x2), some (zI x3), some (zrv x4), some (zrv v36), none, none, none, none, none, none, none]) (zcat_rv _) rfl (zpcV rfl (zcat_rv _))) ?_
  refine zA_ald rfl rfl rfl ?_
  obtain ⟨p38, i39, e40, c41, H⟩ := zob_e H
  refine zA_gf3 rfl rfl e40 c41 ?_
  refine zA_ldn rfl rfl rfl ?_
  obtain ⟨p42, i43, j44, v49, e45, c46, c47, e48, e50, H⟩ := zra_e H
  refine zA_aal rfl rfl e45 c46 c47 e48 e50 ?_
  refine zA_ast2 rfl rfl rfl (zset1 (L' := [some (zrv x0), some (zrv x1), some (zI x2), some (zI x3), some (zrv x4), some (zrv v36), some (zrv v49), none, none, none, none, none, none]) (zcat_rv _) rfl (zpcV rfl (zcat_rv _))) ?_
  refine zA_aldn rfl rfl rfl ?_
  refine zA_ldn rfl rfl rfl ?_
  rcases zb_e H with ⟨x52, h51, C, H⟩ | ⟨E, h51, C, H⟩
  · refine zA_callV (as := [zrv x0, zI x2]) (st' := []) rfl rfl rfl (zrcv_Q e23 c24) rfl (zmE69 _ _) rfl (zmS69 C) ?_
    refine zA_ist2 rfl rfl rfl (zset1 (L' := [some (zrv x0), some (zrv x1), some (zI x2), some (zI x3), some (zrv x4), some (zrv v36), some (zrv v49), some (zI x52), none, none, none, none, none]) rfl rfl (zpcV rfl (zcat_rv _))) ?_
    refine zA_ld rfl rfl rfl ?_
    refine zA_ald rfl rfl rfl ?_
    obtain ⟨p53, i54, e55, c56, H⟩ := zob_e H
    refine zA_gf0 rfl rfl (Or.inl rfl) e55 c56 ?_
    rcases zb_e H with ⟨x58, h57, C, H⟩ | ⟨E, h57, C, H⟩
    · refine zA_callV (as := [zI (zi h51 p53 i54 2)]) (st' := [zI x52]) rfl rfl rfl rfl rfl (zmE70 _) rfl (zmS70 C) ?_
      refine zA_st (st' := [zI (x52 - x58)]) rfl rfl rfl rfl ?_
      refine zA_ldn rfl rfl rfl ?_
      rcases zb_e H with ⟨x60, h59, C, H⟩ | ⟨E, h59, C, H⟩
      · refine zA_callV (as := [zI x3]) (st' := [zI (x52 - x58)]) rfl rfl rfl rfl rfl (zmE70 _) rfl (zmS70 C) ?_
        refine zA_st (st' := [zI ((x52 - x58) + x60)]) rfl rfl rfl rfl ?_
        obtain ⟨x61, e62, H⟩ := zlet_e H
        refine zA_ist2 rfl rfl e62 (zset1 (L' := [some (zrv x0), some (zrv x1), some (zI x2), some (zI x3), some (zrv x4), some (zrv v36), some (zrv v49), some (zI x52), some (zI x61), none, none, none, none]) rfl rfl (zpcV rfl rfl)) ?_
        refine zA_ldn rfl rfl rfl ?_
        rcases zite_e H with ⟨c63, H⟩ | ⟨c63, H⟩
        · refine zA_brF' (c := x3 = 0) rfl rfl rfl c63 ?_
          refine zA_ald rfl rfl rfl ?_
          refine zA_gf3 rfl rfl e55 c56 ?_
          rcases zite_e H with ⟨c64, H⟩ | ⟨c64, H⟩
          · refine zA_brF' (c := (zr h59 p53 i54 0) = none) rfl rfl zIf_nonnull c64 ?_
            obtain ⟨x65, e66, H⟩ := zlet_e H
            refine zA_inc rfl rfl rfl (e66.trans (congrArg (_ + ·) zkk36)) (zset1 (L' := [some (zrv x0), some (zrv x1), some (zI x2), some (zI x3), some (zrv x4), some (zrv v36), some (zrv v49), some (zI x52), some (zI x65), none, none, none, none]) rfl rfl (zpcV rfl rfl)) ?_
            exact zA_tr (L := [some (zrv x0), none, some (zI x2), some (zI x3), some (zrv x4), some (zrv v36), none, some (zI x52), some (zI x65), none, none, none, none]) rfl rfl (zmS68_30 _ _ _ _ _ _ _ _ _ _ H)
          · refine zA_brT' (c := (zr h59 p53 i54 0) = none) rfl rfl zIf_nonnull c64 ?_
            exact zA_tr (L := [some (zrv x0), none, some (zI x2), some (zI x3), some (zrv x4), some (zrv v36), none, some (zI x52), some (zI x61), none, none, none, none]) rfl rfl (zmS68_30 _ _ _ _ _ _ _ _ _ _ H)
        · refine zA_brT' (c := x3 = 0) rfl rfl rfl c63 ?_
          exact zA_tr (L := [some (zrv x0), none, some (zI x2), some (zI x3), some (zrv x4), some (zrv v36), none, some (zI x52), some (zI x61), none, none, none, none]) rfl rfl (zmS68_30 _ _ _ _ _ _ _ _ _ _ H)
      · cases H
        exact zA_callX (as := [zI x3]) (st' := [zI (x52 - x58)]) rfl rfl rfl rfl (zmE70 _) rfl rfl rfl (zmS70 C)
    · cases H
      exact zA_callX (as := [zI (zi h51 p53 i54 2)]) (st' := [zI x52]) rfl rfl rfl rfl (zmE70 _) rfl rfl rfl (zmS70 C)
  · cases H
    exact zA_callX (as := [zrv x0, zI x2]) (st' := []) rfl rfl (zrcv_Q e23 c24) rfl (zmE69 _ _) rfl rfl rfl (zmS69 C)
theorem zmE68 (x0 : zq) (x1 : zq) (x2 : Int32) (x3 : Int32) (x4 : zq) : zpad (zPr.2.1 68).1 (zil [zrv x0, zrv x1, zI x2, zI x3, zrv x4]) = [some (zrv x0), some (zrv x1), some (zI x2), some (zI x3), some (zrv x4), none, none, none, none, none, none, none, none] := by
  simp only [zil_A, zil_I, zil_F, zil_D, zil_N]
  rfl
def zm65_52 (x0 : zq) (x2 : Int32) (x3 : Int32) (x4 : zq) (x7 : zq) (h : zH) : zRs Int32 :=
  zob 11 x0 fun p21 i22 =>
  zb (zm68 x0 x4 x2 x3 x7 h) fun x26 h25 =>
  if x26 = 0 then
    some (.inl (5 : Int32), h25)
  else
    zb (zm45 x0 x4 h25) fun x29 h28 =>
    some (.inl x29, h28)
theorem zmS65_52 : ∀ (x0 : zq) (x2 : Int32) (x3 : Int32) (x4 : zq) (x7 : zq) (h : zH) (r : Int32 ⊕ Nat) (h' : zH), zm65_52 x0 x2 x3 x4 x7 h = some (r, h') → zAt 65 52 [some (zrv x0), none, some (zI x2), some (zI x3), some (zrv x4), none, none, some (zrv x7)] [] h (zoI r) h' := by
  intro x0 x2 x3 x4 x7 h r h' H
  unfold zm65_52 at H
  refine zA_aldn rfl rfl rfl ?_
  refine zA_ald rfl rfl rfl ?_
  refine zA_ldn rfl rfl rfl ?_
  refine zA_ldn rfl rfl rfl ?_
  refine zA_ald rfl rfl rfl ?_
  obtain ⟨p21, i22, e23, c24, H⟩ := zob_e H
  rcases zb_e H with ⟨x26, h25, C, H⟩ | ⟨E, h25, C, H⟩
  · refine zA_callV (as := [zrv x0, zrv x4, zI x2, zI x3, zrv x7]) (st' := []) rfl rfl rfl (zrcv_Q e23 c24) rfl (zmE68 _ _ _ _ _) rfl (zmS68 C) ?_
    rcases zite_e H with ⟨c27, H⟩ | ⟨c27, H⟩
    · refine zA_brF' (c := x26 = 0) rfl rfl rfl c27 ?_
      refine zA_push rfl rfl zkk20 ?_
      cases H
      exact zA_ret rfl rfl
    · refine zA_brT' (c := x26 = 0) rfl rfl rfl c27 ?_
      refine zA_tr (L := [some (zrv x0), none, none, none, some (zrv x4), none, none, none]) rfl rfl ?_
      refine zA_aldn rfl rfl rfl ?_
      refine zA_ald rfl rfl rfl ?_
      rcases zb_e H with ⟨x29, h28, C, H⟩ | ⟨E, h28, C, H⟩
      · refine zA_callV (as := [zrv x0, zrv x4]) (st' := []) rfl rfl rfl (zrcv_Q e23 c24) rfl (zmE45 _ _) rfl (zmS45 C) ?_
        cases H
        exact zA_ret rfl rfl
      · cases H
        exact zA_callX (as := [zrv x0, zrv x4]) (st' := []) rfl rfl (zrcv_Q e23 c24) rfl (zmE45 _ _) rfl rfl rfl (zmS45 C)
  · cases H
    exact zA_callX (as := [zrv x0, zrv x4, zI x2, zI x3, zrv x7]) (st' := []) rfl rfl (zrcv_Q e23 c24) rfl (zmE68 _ _ _ _ _) rfl rfl rfl (zmS68 C)
-- 65: ReleaseHouse.reasonNotToPut(LReleaseHouse$Release;II)I
def zm65 (x0 : zq) (x1 : zq) (x2 : Int32) (x3 : Int32) (h : zH) : zRs Int32 :=
  zob 5 x1 fun p21 i22 =>
  zlet (zr h p21 i22 0) fun x25 =>
  zob 11 x0 fun p27 i28 =>
  zob 0 x25 fun p31 i32 =>
  zra (zr h p27 i28 6) (zi h p31 i32 1) h fun v42 =>
  zob 8 v42 fun p44 i45 =>
  zra (zr h p44 i45 0) x2 h fun v55 =>
  zob 9 v55 fun p57 i58 =>
  if (zr h p57 i58 0) = x25 then
    some (.inl (0 : Int32), h)
  else
    zb (zm28 v55 x25 h) fun x63 h62 =>
    if x63 = 0 then
      if (zi h62 p44 i45 7) = 0 then
        zb (zm67 x0 x1 x2 h62) fun x67 h66 =>
        if x67 = 0 then
          zb (zm66 x0 x25 v55 h66) fun x70 h69 =>
          if x70 = none then
            zm65_52 x0 x2 x3 x25 x70 h69
          else
            if (zi h69 p31 i32 8) = 0 then
              some (.inl (4 : Int32), h69)
            else
              zob 5 x70 fun p73 i74 =>
              zob 0 (zr h69 p73 i74 0) fun p77 i78 =>
              if (zi h69 p77 i78 8) = 0 then
                zm65_52 x0 x2 x3 x25 x70 h69
              else
                some (.inl (4 : Int32), h69)
        else
          some (.inl (3 : Int32), h66)
      else
        some (.inl (2 : Int32), h62)
    else
      some (.inl (0 : Int32), h62)
theorem zmS65 {x0 : zq} {x1 : zq} {x2 : Int32} {x3 : Int32} {h : zH} {r : Int32 ⊕ Nat} {h' : zH} (H : zm65 x0 x1 x2 x3 h = some (r, h')) : zAt 65 0 [some (zrv x0), some (zrv x1), some (zI x2), some (zI x3), none, none, none, none] [] h (zoI r) h' := by
  unfold zm65 at H
  refine zA_aldn rfl rfl rfl ?_
  obtain ⟨p21, i22, e23, c24, H⟩ := zob_e H
  refine zA_gf3 rfl rfl e23 c24 ?_
  obtain ⟨x25, e26, H⟩ := zlet_e H
  refine zA_ast2 rfl rfl e26 (zset1 (L' := [some (zrv x0), some (zrv x1), some (zI x2), some (zI x3), some (zrv x25), none, none, none]) (zcat_rv _) rfl (zpcV rfl rfl)) ?_
  refine zA_aldn rfl rfl rfl ?_
  obtain ⟨p27, i28, e29, c30, H⟩ := zob_e H
  refine zA_gf3 rfl rfl e29 c30 ?_
  refine zA_ald rfl rfl rfl ?_
  obtain ⟨p31, i32, e33, c34, H⟩ := zob_e H
  refine zA_gf0 rfl rfl (Or.inl rfl) e33 c34 ?_
  obtain ⟨p35, i36, j37, v42, e38, c39, c40, e41, e43, H⟩ := zra_e H
  refine zA_aal rfl rfl e38 c39 c40 e41 e43 ?_
  refine zA_ast2 rfl rfl rfl (zset1 (L' := [some (zrv x0), some (zrv x1), some (zI x2), some (zI x3), some (zrv x25), some (zrv v42), none, none]) (zcat_rv _) rfl (zpcV rfl (zcat_rv _))) ?_
  refine zA_ald rfl rfl rfl ?_
  obtain ⟨p44, i45, e46, c47, H⟩ := zob_e H
  refine zA_gf3 rfl rfl e46 c47 ?_
  refine zA_ldn rfl rfl rfl ?_
  obtain ⟨p48, i49, j50, v55, e51, c52, c53, e54, e56, H⟩ := zra_e H
  refine zA_aal rfl rfl e51 c52 c53 e54 e56 ?_
  refine zA_ast2 rfl rfl rfl (zset1 (L' := [some (zrv x0), some (zrv x1), some (zI x2), some (zI x3), some (zrv x25), some (zrv v42), some (zrv v55), none]) (zcat_rv _) rfl (zpcV rfl (zcat_rv _))) ?_
  refine zA_ald rfl rfl rfl ?_
  obtain ⟨p57, i58, e59, c60, H⟩ := zob_e H
  refine zA_gf3 rfl rfl e59 c60 ?_
  refine zA_ald rfl rfl rfl ?_
  rcases zite_e H with ⟨c61, H⟩ | ⟨c61, H⟩
  · refine zA_brT (c := (zr h p57 i58 0) = x25) rfl rfl zIf_aeq c61 ?_
    refine zA_tr (L := [none, none, none, none, none, none, none, none]) rfl rfl ?_
    refine zA_push rfl rfl zkk7 ?_
    cases H
    exact zA_ret rfl rfl
  · refine zA_brF (c := (zr h p57 i58 0) = x25) rfl rfl zIf_aeq c61 ?_
    refine zA_ald rfl rfl rfl ?_
    refine zA_ald rfl rfl rfl ?_
    rcases zb_e H with ⟨x63, h62, C, H⟩ | ⟨E, h62, C, H⟩
    · refine zA_callV (as := [zrv v55, zrv x25]) (st' := []) rfl rfl rfl (zrcv_Q e59 c60) rfl (zmE28 _ _) rfl (zmS28 C) ?_
      rcases zite_e H with ⟨c64, H⟩ | ⟨c64, H⟩
      · refine zA_brT (c := x63 = 0) rfl rfl rfl c64 ?_
        refine zA_ald rfl rfl rfl ?_
        refine zA_gf0 rfl rfl (Or.inr rfl) e46 c47 ?_
        rcases zite_e H with ⟨c65, H⟩ | ⟨c65, H⟩
        · refine zA_brT (c := (zi h62 p44 i45 7) = 0) rfl rfl rfl c65 ?_
          refine zA_tr (L := [some (zrv x0), some (zrv x1), some (zI x2), some (zI x3), some (zrv x25), none, some (zrv v55), none]) rfl rfl ?_
          refine zA_aldn rfl rfl rfl ?_
          refine zA_aldn rfl rfl rfl ?_
          refine zA_ldn rfl rfl rfl ?_
          rcases zb_e H with ⟨x67, h66, C, H⟩ | ⟨E, h66, C, H⟩
          · refine zA_callV (as := [zrv x0, zrv x1, zI x2]) (st' := []) rfl rfl rfl (zrcv_Q e29 c30) rfl (zmE67 _ _ _) rfl (zmS67 C) ?_
            rcases zite_e H with ⟨c68, H⟩ | ⟨c68, H⟩
            · refine zA_brT (c := x67 = 0) rfl rfl rfl c68 ?_
              refine zA_tr (L := [some (zrv x0), none, some (zI x2), some (zI x3), some (zrv x25), none, some (zrv v55), none]) rfl rfl ?_
              refine zA_aldn rfl rfl rfl ?_
              refine zA_ald rfl rfl rfl ?_
              refine zA_ald rfl rfl rfl ?_
              rcases zb_e H with ⟨x70, h69, C, H⟩ | ⟨E, h69, C, H⟩
              · refine zA_callV (as := [zrv x0, zrv x25, zrv v55]) (st' := []) rfl rfl rfl (zrcv_Q e29 c30) rfl (zmE66 _ _ _) rfl (zmS66 C) ?_
                refine zA_ast2 rfl rfl rfl (zset1 (L' := [some (zrv x0), none, some (zI x2), some (zI x3), some (zrv x25), none, some (zrv v55), some (zrv x70)]) (zcat_rv _) rfl (zpcV rfl (zcat_rv _))) ?_
                refine zA_ald rfl rfl rfl ?_
                rcases zite_e H with ⟨c71, H⟩ | ⟨c71, H⟩
                · refine zA_brT (c := x70 = none) rfl rfl zIf_null c71 ?_
                  exact zA_tr (L := [some (zrv x0), none, some (zI x2), some (zI x3), some (zrv x25), none, none, some (zrv x70)]) rfl rfl (zmS65_52 _ _ _ _ _ _ _ _ H)
                · refine zA_brF (c := x70 = none) rfl rfl zIf_null c71 ?_
                  refine zA_ald rfl rfl rfl ?_
                  refine zA_gf0 rfl rfl (Or.inr rfl) e33 c34 ?_
                  rcases zite_e H with ⟨c72, H⟩ | ⟨c72, H⟩
                  · refine zA_brT (c := (zi h69 p31 i32 8) = 0) rfl rfl rfl c72 ?_
                    refine zA_tr (L := [none, none, none, none, none, none, none, none]) rfl rfl ?_
                    refine zA_push rfl rfl zkk9 ?_
                    cases H
                    exact zA_ret rfl rfl
                  · refine zA_brF (c := (zi h69 p31 i32 8) = 0) rfl rfl rfl c72 ?_
                    refine zA_ald rfl rfl rfl ?_
                    obtain ⟨p73, i74, e75, c76, H⟩ := zob_e H
                    refine zA_gf3 rfl rfl e75 c76 ?_
                    obtain ⟨p77, i78, e79, c80, H⟩ := zob_e H
                    refine zA_gf0 rfl rfl (Or.inr rfl) e79 c80 ?_
                    rcases zite_e H with ⟨c81, H⟩ | ⟨c81, H⟩
                    · refine zA_brT (c := (zi h69 p77 i78 8) = 0) rfl rfl rfl c81 ?_
                      exact zA_tr (L := [some (zrv x0), none, some (zI x2), some (zI x3), some (zrv x25), none, none, some (zrv x70)]) rfl rfl (zmS65_52 _ _ _ _ _ _ _ _ H)
                    · refine zA_brF (c := (zi h69 p77 i78 8) = 0) rfl rfl rfl c81 ?_
                      refine zA_tr (L := [none, none, none, none, none, none, none, none]) rfl rfl ?_
                      refine zA_push rfl rfl zkk9 ?_
                      cases H
                      exact zA_ret rfl rfl
              · cases H
                exact zA_callX (as := [zrv x0, zrv x25, zrv v55]) (st' := []) rfl rfl (zrcv_Q e29 c30) rfl (zmE66 _ _ _) rfl rfl rfl (zmS66 C)
            · refine zA_brF (c := x67 = 0) rfl rfl rfl c68 ?_
              refine zA_push rfl rfl zkk3 ?_
              cases H
              exact zA_ret rfl rfl
          · cases H
            exact zA_callX (as := [zrv x0, zrv x1, zI x2]) (st' := []) rfl rfl (zrcv_Q e29 c30) rfl (zmE67 _ _ _) rfl rfl rfl (zmS67 C)
        · refine zA_brF (c := (zi h62 p44 i45 7) = 0) rfl rfl rfl c65 ?_
          refine zA_push rfl rfl zkk23 ?_
          cases H
          exact zA_ret rfl rfl
      · refine zA_brF (c := x63 = 0) rfl rfl rfl c64 ?_
        refine zA_tr (L := [none, none, none, none, none, none, none, none]) rfl rfl ?_
        refine zA_push rfl rfl zkk7 ?_
        cases H
        exact zA_ret rfl rfl
    · cases H
      exact zA_callX (as := [zrv v55, zrv x25]) (st' := []) rfl rfl (zrcv_Q e59 c60) rfl (zmE28 _ _) rfl rfl rfl (zmS28 C)
theorem zmE65 (x0 : zq) (x1 : zq) (x2 : Int32) (x3 : Int32) : zpad (zPr.2.1 65).1 (zil [zrv x0, zrv x1, zI x2, zI x3]) = [some (zrv x0), some (zrv x1), some (zI x2), some (zI x3), none, none, none, none] := by
  simp only [zil_A, zil_I, zil_F, zil_D, zil_N]
  rfl
-- 23: ReleaseHouse$Sample.areNineTenths(I)Z
def zm23 (x0 : zq) (x1 : Int32) (h : zH) : zRs Int32 :=
  zob 7 x0 fun p21 i22 =>
  if (x1 * (10 : Int32)) < ((zi h p21 i22 1) * (9 : Int32)) then
    some (.inl (0 : Int32), h)
  else
    some (.inl (1 : Int32), h)
theorem zmS23 {x0 : zq} {x1 : Int32} {h : zH} {r : Int32 ⊕ Nat} {h' : zH} (H : zm23 x0 x1 h = some (r, h')) : zAt 23 0 [some (zrv x0), some (zI x1)] [] h (zoI r) h' := by
  unfold zm23 at H
  refine zA_ldn rfl rfl rfl ?_
  refine zA_push rfl rfl zkk27 ?_
  refine zA_st (st' := [zI (x1 * (10 : Int32))]) rfl rfl rfl rfl ?_
  refine zA_aldn rfl rfl rfl ?_
  obtain ⟨p21, i22, e23, c24, H⟩ := zob_e H
  refine zA_gf0 rfl rfl (Or.inl rfl) e23 c24 ?_
  refine zA_push rfl rfl zkk19 ?_
  refine zA_st (st' := [zI ((zi h p21 i22 1) * (9 : Int32)), zI (x1 * (10 : Int32))]) rfl rfl rfl rfl ?_
  rcases zite_e H with ⟨c25, H⟩ | ⟨c25, H⟩
  · refine zA_brT (c := (x1 * (10 : Int32)) < ((zi h p21 i22 1) * (9 : Int32))) rfl rfl rfl c25 ?_
    refine zA_tr (L := [none, none]) rfl rfl ?_
    refine zA_push rfl rfl zkk7 ?_
    cases H
    exact zA_ret rfl (zret_Z (by decide))
  · refine zA_brF (c := (x1 * (10 : Int32)) < ((zi h p21 i22 1) * (9 : Int32))) rfl rfl rfl c25 ?_
    refine zA_push rfl rfl zkk5 ?_
    refine zA_go rfl rfl ?_
    refine zA_tr (L := [none, none]) rfl rfl ?_
    cases H
    exact zA_ret rfl (zret_Z (by decide))
theorem zmE23 (x0 : zq) (x1 : Int32) : zpad (zPr.2.1 23).1 (zil [zrv x0, zI x1]) = [some (zrv x0), some (zI x1)] := by
  simp only [zil_A, zil_I, zil_F, zil_D, zil_N]
  rfl
def zm21_4 : Nat → zq → Int32 → Int32 → zH → zRs Int32
  | 0, _, _, _, _ => none
  | n + 1, x0, x1, x2, h =>
    if (17 : Int32) ≤ x2 then
      some (.inl (16 : Int32), h)
    else
      zob 7 x0 fun p22 i23 =>
      zri (zr h p22 i23 3) x2 h fun v33 =>
      zlet (x1 + v33) fun x35 =>
      zb (zm23 x0 x35 h) fun x38 h37 =>
      if x38 = 0 then
        zlet (x2 + (1 : Int32)) fun x40 =>
        zm21_4 n x0 x35 x40 h37
      else
        some (.inl x2, h37)
theorem zmS21_4 : ∀ (n : Nat) (x0 : zq) (x1 : Int32) (x2 : Int32) (h : zH) (r : Int32 ⊕ Nat) (h' : zH), zm21_4 n x0 x1 x2 h = some (r, h') → zAt 21 4 [some (zrv x0), some (zI x1), some (zI x2)] [] h (zoI r) h' := by
  intro n
  induction n with
  | zero => intro x0 x1 x2 h r h' H; cases H
  | succ n ih =>
    intro x0 x1 x2 h r h' H
    unfold zm21_4 at H
    refine zA_ldn rfl rfl rfl ?_
    refine zA_push rfl rfl zkk1 ?_
    rcases zite_e H with ⟨c21, H⟩ | ⟨c21, H⟩
    · refine zA_brT (c := (17 : Int32) ≤ x2) rfl rfl rfl c21 ?_
      refine zA_tr (L := [none, none, none]) rfl rfl ?_
      refine zA_push rfl rfl zkk33 ?_
      cases H
      exact zA_ret rfl rfl
    · refine zA_brF (c := (17 : Int32) ≤ x2) rfl rfl rfl c21 ?_
      refine zA_ldn rfl rfl rfl ?_
      refine zA_aldn rfl rfl rfl ?_
      obtain ⟨p22, i23, e24, c25, H⟩ := zob_e H
      refine zA_gf3 rfl rfl e24 c25 ?_
      refine zA_ldn rfl rfl rfl ?_
      obtain ⟨p26, i27, j28, v33, e29, c30, c31, e32, e34, H⟩ := zri_e H
      refine zA_ial rfl rfl e29 c30 c31 e32 e34 ?_
      refine zA_st (st' := [zI (x1 + v33)]) rfl rfl rfl rfl ?_
      obtain ⟨x35, e36, H⟩ := zlet_e H
      refine zA_istn2 rfl rfl e36 (zset1 (L' := [some (zrv x0), some (zI x35), some (zI x2)]) rfl rfl (zpcV rfl (zcat_rv _))) ?_
      refine zA_aldn rfl rfl rfl ?_
      refine zA_ldn rfl rfl rfl ?_
      rcases zb_e H with ⟨x38, h37, C, H⟩ | ⟨E, h37, C, H⟩
      · refine zA_callV (as := [zrv x0, zI x35]) (st' := []) rfl rfl rfl (zrcv_Q e24 c25) rfl (zmE23 _ _) rfl (zmS23 C) ?_
        rcases zite_e H with ⟨c39, H⟩ | ⟨c39, H⟩
        · refine zA_brT (c := x38 = 0) rfl rfl rfl c39 ?_
          obtain ⟨x40, e41, H⟩ := zlet_e H
          refine zA_inc rfl rfl rfl (e41.trans (congrArg (_ + ·) zkk8)) (zset1 (L' := [some (zrv x0), some (zI x35), some (zI x40)]) rfl rfl (zpcV rfl rfl)) ?_
          refine zA_go rfl rfl ?_
          exact zA_tr (L := [some (zrv x0), some (zI x35), some (zI x40)]) rfl rfl (ih _ _ _ _ _ _ H)
        · refine zA_brF (c := x38 = 0) rfl rfl rfl c39 ?_
          refine zA_ldn rfl rfl rfl ?_
          cases H
          exact zA_ret rfl rfl
      · cases H
        exact zA_callX (as := [zrv x0, zI x35]) (st' := []) rfl rfl (zrcv_Q e24 c25) rfl (zmE23 _ _) rfl rfl rfl (zmS23 C)
-- 21: ReleaseHouse$Sample.slowBucket()I
def zm21 (x0 : zq) (h : zH) : zRs Int32 :=
  zm21_4 zN0 x0 (0 : Int32) (0 : Int32) h
theorem zmS21 {x0 : zq} {h : zH} {r : Int32 ⊕ Nat} {h' : zH} (H : zm21 x0 h = some (r, h')) : zAt 21 0 [some (zrv x0), none, none] [] h (zoI r) h' := by
  unfold zm21 at H
  refine zA_push rfl rfl zkk7 ?_
  refine zA_istn2 rfl rfl rfl (zset1 (L' := [some (zrv x0), some (zI (0 : Int32)), none]) rfl rfl (zpcV rfl (zcat_rv _))) ?_
  refine zA_push rfl rfl zkk7 ?_
  refine zA_istn2 rfl rfl rfl (zset1 (L' := [some (zrv x0), some (zI (0 : Int32)), some (zI (0 : Int32))]) rfl rfl (zpcV rfl rfl)) ?_
  exact zA_tr (L := [some (zrv x0), some (zI (0 : Int32)), some (zI (0 : Int32))]) rfl rfl (zmS21_4 zN0 _ _ _ _ _ _ H)
theorem zmE21 (x0 : zq) : zpad (zPr.2.1 21).1 (zil [zrv x0]) = [some (zrv x0), none, none] := by
  simp only [zil_A, zil_I, zil_F, zil_D, zil_N]
  rfl
-- 37: ReleaseHouse$Spot.pairs()I
def zm37 (x0 : zq) (h : zH) : zRs Int32 :=
  zob 9 x0 fun p21 i22 =>
  zob 7 (zr h p21 i22 5) fun p25 i26 =>
  zob 7 (zr h p21 i22 6) fun p29 i30 =>
  some (.inl (if (zi h p29 i30 1) < (zi h p25 i26 1) then (zi h p29 i30 1) else (zi h p25 i26 1)), h)
theorem zmS37 {x0 : zq} {h : zH} {r : Int32 ⊕ Nat} {h' : zH} (H : zm37 x0 h = some (r, h')) : zAt 37 0 [some (zrv x0)] [] h (zoI r) h' := by
  unfold zm37 at H
  refine zA_aldn rfl rfl rfl ?_
  obtain ⟨p21, i22, e23, c24, H⟩ := zob_e H
  refine zA_gf3 rfl rfl e23 c24 ?_
  obtain ⟨p25, i26, e27, c28, H⟩ := zob_e H
  refine zA_gf0 rfl rfl (Or.inl rfl) e27 c28 ?_
  refine zA_aldn rfl rfl rfl ?_
  refine zA_gf3 rfl rfl e23 c24 ?_
  obtain ⟨p29, i30, e31, c32, H⟩ := zob_e H
  refine zA_gf0 rfl rfl (Or.inl rfl) e31 c32 ?_
  refine zA_l6 rfl rfl rfl ?_
  cases H
  exact zA_ret rfl rfl
theorem zmE37 (x0 : zq) : zpad (zPr.2.1 37).1 (zil [zrv x0]) = [some (zrv x0)] := by
  simp only [zil_A, zil_I, zil_F, zil_D, zil_N]
  rfl
def zm36_12 (x0 : zq) (x1 : UInt64) (s0 : Int32) (h : zH) : zRs Int32 :=
  if 0 ≤ (Op.cmpValue (FP.dcmp x1 (4626322717216342016 : UInt64)) .l) then
    some (.inl (2 : Int32), h)
  else
    if s0 = 0 then
      zob 9 x0 fun p23 i24 =>
      zb (zm37 x0 h) fun x28 h27 =>
      if x28 < (20 : Int32) then
        some (.inl (0 : Int32), h27)
      else
        some (.inl (1 : Int32), h27)
    else
      some (.inl (2 : Int32), h)
theorem zmS36_12 : ∀ (x0 : zq) (x1 : UInt64) (s0 : Int32) (h : zH) (r : Int32 ⊕ Nat) (h' : zH), zm36_12 x0 x1 s0 h = some (r, h') → zAt 36 12 [some (zrv x0), some (zD x1), none, none, none, none] [zI s0] h (zoI r) h' := by
  intro x0 x1 s0 h r h' H
  unfold zm36_12 at H
  refine zA_ist2 rfl rfl rfl (zset1 (L' := [some (zrv x0), some (zD x1), none, none, none, some (zI s0)]) rfl rfl (zpcN rfl)) ?_
  refine zA_dldn rfl rfl rfl ?_
  refine zA_push rfl rfl zkk37 ?_
  refine zA_st (st' := [zI (Op.cmpValue (FP.dcmp x1 (4626322717216342016 : UInt64)) .l)]) rfl rfl rfl rfl ?_
  rcases zite_e H with ⟨c21, H⟩ | ⟨c21, H⟩
  · refine zA_brT (c := 0 ≤ (Op.cmpValue (FP.dcmp x1 (4626322717216342016 : UInt64)) .l)) rfl rfl rfl c21 ?_
    refine zA_tr (L := [none, none, none, none, none, none]) rfl rfl ?_
    refine zA_push rfl rfl zkk23 ?_
    cases H
    exact zA_ret rfl rfl
  · refine zA_brF (c := 0 ≤ (Op.cmpValue (FP.dcmp x1 (4626322717216342016 : UInt64)) .l)) rfl rfl rfl c21 ?_
    refine zA_ld rfl rfl rfl ?_
    rcases zite_e H with ⟨c22, H⟩ | ⟨c22, H⟩
    · refine zA_brT (c := s0 = 0) rfl rfl rfl c22 ?_
      refine zA_tr (L := [some (zrv x0), none, none, none, none, none]) rfl rfl ?_
      refine zA_aldn rfl rfl rfl ?_
      obtain ⟨p23, i24, e25, c26, H⟩ := zob_e H
      rcases zb_e H with ⟨x28, h27, C, H⟩ | ⟨E, h27, C, H⟩
      · refine zA_callV (as := [zrv x0]) (st' := []) rfl rfl rfl (zrcv_Q e25 c26) rfl (zmE37 _) rfl (zmS37 C) ?_
        refine zA_push rfl rfl zkk16 ?_
        rcases zite_e H with ⟨c29, H⟩ | ⟨c29, H⟩
        · refine zA_brT (c := x28 < (20 : Int32)) rfl rfl rfl c29 ?_
          refine zA_tr (L := [none, none, none, none, none, none]) rfl rfl ?_
          refine zA_push rfl rfl zkk7 ?_
          cases H
          exact zA_ret rfl rfl
        · refine zA_brF (c := x28 < (20 : Int32)) rfl rfl rfl c29 ?_
          refine zA_push rfl rfl zkk5 ?_
          refine zA_go rfl rfl ?_
          refine zA_tr (L := [none, none, none, none, none, none]) rfl rfl ?_
          cases H
          exact zA_ret rfl rfl
      · cases H
        exact zA_callX (as := [zrv x0]) (st' := []) rfl rfl (zrcv_Q e25 c26) rfl (zmE37 _) rfl rfl rfl (zmS37 C)
    · refine zA_brF (c := s0 = 0) rfl rfl rfl c22 ?_
      refine zA_tr (L := [none, none, none, none, none, none]) rfl rfl ?_
      refine zA_push rfl rfl zkk23 ?_
      cases H
      exact zA_ret rfl rfl
-- 36: ReleaseHouse$Spot.judgementBy(DII)I
def zm36 (x0 : zq) (x1 : UInt64) (x3 : Int32) (x4 : Int32) (h : zH) : zRs Int32 :=
  zob 9 x0 fun p21 i22 =>
  zb (zm37 x0 h) fun x26 h25 =>
  if x26 < (10 : Int32) then
    zm36_12 x0 x1 (0 : Int32) h25
  else
    if x3 ≤ (x4 + (1 : Int32)) then
      zm36_12 x0 x1 (0 : Int32) h25
    else
      zm36_12 x0 x1 (1 : Int32) h25
theorem zmS36 {x0 : zq} {x1 : UInt64} {x3 : Int32} {x4 : Int32} {h : zH} {r : Int32 ⊕ Nat} {h' : zH} (H : zm36 x0 x1 x3 x4 h = some (r, h')) : zAt 36 0 [some (zrv x0), some (zD x1), none, some (zI x3), some (zI x4), none] [] h (zoI r) h' := by
  unfold zm36 at H
  refine zA_aldn rfl rfl rfl ?_
  obtain ⟨p21, i22, e23, c24, H⟩ := zob_e H
  rcases zb_e H with ⟨x26, h25, C, H⟩ | ⟨E, h25, C, H⟩
  · refine zA_callV (as := [zrv x0]) (st' := []) rfl rfl rfl (zrcv_Q e23 c24) rfl (zmE37 _) rfl (zmS37 C) ?_
    refine zA_push rfl rfl zkk27 ?_
    rcases zite_e H with ⟨c27, H⟩ | ⟨c27, H⟩
    · refine zA_brT (c := x26 < (10 : Int32)) rfl rfl rfl c27 ?_
      refine zA_tr (L := [some (zrv x0), some (zD x1), none, none, none, none]) rfl rfl ?_
      refine zA_push rfl rfl zkk7 ?_
      exact zA_tr (L := [some (zrv x0), some (zD x1), none, none, none, none]) rfl rfl (zmS36_12 _ _ _ _ _ _ H)
    · refine zA_brF (c := x26 < (10 : Int32)) rfl rfl rfl c27 ?_
      refine zA_ldn rfl rfl rfl ?_
      refine zA_ld rfl rfl rfl ?_
      refine zA_push rfl rfl zkk5 ?_
      refine zA_st (st' := [zI (x4 + (1 : Int32)), zI x3]) rfl rfl rfl rfl ?_
      rcases zite_e H with ⟨c28, H⟩ | ⟨c28, H⟩
      · refine zA_brT (c := x3 ≤ (x4 + (1 : Int32))) rfl rfl rfl c28 ?_
        refine zA_tr (L := [some (zrv x0), some (zD x1), none, none, none, none]) rfl rfl ?_
        refine zA_push rfl rfl zkk7 ?_
        exact zA_tr (L := [some (zrv x0), some (zD x1), none, none, none, none]) rfl rfl (zmS36_12 _ _ _ _ _ _ H)
      · refine zA_brF (c := x3 ≤ (x4 + (1 : Int32))) rfl rfl rfl c28 ?_
        refine zA_push rfl rfl zkk5 ?_
        refine zA_go rfl rfl ?_
        exact zA_tr (L := [some (zrv x0), some (zD x1), none, none, none, none]) rfl rfl (zmS36_12 _ _ _ _ _ _ H)
  · cases H
    exact zA_callX (as := [zrv x0]) (st' := []) rfl rfl (zrcv_Q e23 c24) rfl (zmE37 _) rfl rfl rfl (zmS37 C)
theorem zmE36 (x0 : zq) (x1 : UInt64) (x3 : Int32) (x4 : Int32) : zpad (zPr.2.1 36).1 (zil [zrv x0, zD x1, zI x3, zI x4]) = [some (zrv x0), some (zD x1), none, some (zI x3), some (zI x4), none] := by
  simp only [zil_A, zil_I, zil_F, zil_D, zil_N]
  rfl
-- 34: ReleaseHouse$Spot.judgement()I
def zm34 (x0 : zq) (h : zH) : zRs Int32 :=
  zob 9 x0 fun p21 i22 =>
  zob 7 (zr h p21 i22 5) fun p25 i26 =>
  zb (zm21 (zr h p21 i22 5) h) fun x30 h29 =>
  zob 7 (zr h29 p21 i22 6) fun p31 i32 =>
  zb (zm21 (zr h29 p21 i22 6) h29) fun x36 h35 =>
  zb (zm36 x0 (zd h p21 i22 4) x30 x36 h35) fun x38 h37 =>
  some (.inl x38, h37)
theorem zmS34 {x0 : zq} {h : zH} {r : Int32 ⊕ Nat} {h' : zH} (H : zm34 x0 h = some (r, h')) : zAt 34 0 [some (zrv x0)] [] h (zoI r) h' := by
  unfold zm34 at H
  refine zA_aldn rfl rfl rfl ?_
  refine zA_aldn rfl rfl rfl ?_
  obtain ⟨p21, i22, e23, c24, H⟩ := zob_e H
  refine zA_gf2 rfl rfl e23 c24 ?_
  refine zA_aldn rfl rfl rfl ?_
  refine zA_gf3 rfl rfl e23 c24 ?_
  obtain ⟨p25, i26, e27, c28, H⟩ := zob_e H
  rcases zb_e H with ⟨x30, h29, C, H⟩ | ⟨E, h29, C, H⟩
  · refine zA_callV (as := [zrv (zr h p21 i22 5)]) (st' := [zD (zd h p21 i22 4), zrv x0]) rfl rfl rfl (zrcv_Q e27 c28) rfl (zmE21 _) rfl (zmS21 C) ?_
    refine zA_aldn rfl rfl rfl ?_
    refine zA_gf3 rfl rfl e23 c24 ?_
    obtain ⟨p31, i32, e33, c34, H⟩ := zob_e H
    rcases zb_e H with ⟨x36, h35, C, H⟩ | ⟨E, h35, C, H⟩
    · refine zA_callV (as := [zrv (zr h29 p21 i22 6)]) (st' := [zI x30, zD (zd h p21 i22 4), zrv x0]) rfl rfl rfl (zrcv_Q e33 c34) rfl (zmE21 _) rfl (zmS21 C) ?_
      rcases zb_e H with ⟨x38, h37, C, H⟩ | ⟨E, h37, C, H⟩
      · refine zA_callV (as := [zrv x0, zD (zd h p21 i22 4), zI x30, zI x36]) (st' := []) rfl rfl rfl (zrcv_Q e23 c24) rfl (zmE36 _ _ _ _) rfl (zmS36 C) ?_
        cases H
        exact zA_ret rfl rfl
      · cases H
        exact zA_callX (as := [zrv x0, zD (zd h p21 i22 4), zI x30, zI x36]) (st' := []) rfl rfl (zrcv_Q e23 c24) rfl (zmE36 _ _ _ _) rfl rfl rfl (zmS36 C)
    · cases H
      exact zA_callX (as := [zrv (zr h29 p21 i22 6)]) (st' := [zI x30, zD (zd h p21 i22 4), zrv x0]) rfl rfl (zrcv_Q e33 c34) rfl (zmE21 _) rfl rfl rfl (zmS21 C)
  · cases H
    exact zA_callX (as := [zrv (zr h p21 i22 5)]) (st' := [zD (zd h p21 i22 4), zrv x0]) rfl rfl (zrcv_Q e27 c28) rfl (zmE21 _) rfl rfl rfl (zmS21 C)
theorem zmE34 (x0 : zq) : zpad (zPr.2.1 34).1 (zil [zrv x0]) = [some (zrv x0)] := by
  simp only [zil_A, zil_I, zil_F, zil_D, zil_N]
  rfl
def zm72_36 (k11 : zq → Int32 → Int32 → zq → Int32 → zH → zRs Int32) (x0 : zq) (x1 : Int32) (x2 : Int32) (x3 : zq) (x4 : Int32) (h : zH) : zRs Int32 :=
  zlet (x4 + (1 : Int32)) fun x21 =>
  k11 x0 x1 x2 x3 x21 h
theorem zmS72_36 {k11 : zq → Int32 → Int32 → zq → Int32 → zH → zRs Int32} (hk11 : ∀ (x0 : zq) (x1 : Int32) (x2 : Int32) (x3 : zq) (x4 : Int32) (h : zH) (r : Int32 ⊕ Nat) (h' : zH), k11 x0 x1 x2 x3 x4 h = some (r, h') → zAt 72 11 [some (zrv x0), some (zI x1), some (zI x2), some (zrv x3), some (zI x4), none] [] h (zoI r) h') : ∀ (x0 : zq) (x1 : Int32) (x2 : Int32) (x3 : zq) (x4 : Int32) (h : zH) (r : Int32 ⊕ Nat) (h' : zH), zm72_36 k11 x0 x1 x2 x3 x4 h = some (r, h') → zAt 72 36 [some (zrv x0), some (zI x1), some (zI x2), some (zrv x3), some (zI x4), none] [] h (zoI r) h' := by
  intro x0 x1 x2 x3 x4 h r h' H
  unfold zm72_36 at H
  obtain ⟨x21, e22, H⟩ := zlet_e H
  refine zA_inc rfl rfl rfl (e22.trans (congrArg (_ + ·) zkk8)) (zset1 (L' := [some (zrv x0), some (zI x1), some (zI x2), some (zrv x3), some (zI x21), none]) rfl rfl (zpcV rfl (zcat_rv _))) ?_
  refine zA_go rfl rfl ?_
  exact zA_tr (L := [some (zrv x0), some (zI x1), some (zI x2), some (zrv x3), some (zI x21), none]) rfl rfl (hk11 _ _ _ _ _ _ _ _ H)
def zm72_11 : Nat → zq → Int32 → Int32 → zq → Int32 → zH → zRs Int32
  | 0, _, _, _, _, _, _ => none
  | n + 1, x0, x1, x2, x3, x4, h =>
    zob 11 x0 fun p21 i22 =>
    zlz (zr h p21 i22 0) h fun v30 =>
    if v30 ≤ x4 then
      some (.inl (1 : Int32), h)
    else
      zlg (zr h p21 i22 0) x4 h fun v39 =>
      zob 0 v39 fun p41 i42 =>
      if (zi h p41 i42 1) = x1 then
        if v39 = x3 then
          zm72_36 (zm72_11 n) x0 x1 x2 x3 x4 h
        else
          zri (zr h p41 i42 11) x2 h fun v54 =>
          if v54 ≤ 0 then
            zm72_36 (zm72_11 n) x0 x1 x2 x3 x4 h
          else
            some (.inl (0 : Int32), h)
      else
        zm72_36 (zm72_11 n) x0 x1 x2 x3 x4 h
theorem zmS72_11 : ∀ (n : Nat) (x0 : zq) (x1 : Int32) (x2 : Int32) (x3 : zq) (x4 : Int32) (h : zH) (r : Int32 ⊕ Nat) (h' : zH), zm72_11 n x0 x1 x2 x3 x4 h = some (r, h') → zAt 72 11 [some (zrv x0), some (zI x1), some (zI x2), some (zrv x3), some (zI x4), none] [] h (zoI r) h' := by
  intro n
  induction n with
  | zero => intro x0 x1 x2 x3 x4 h r h' H; cases H
  | succ n ih =>
    intro x0 x1 x2 x3 x4 h r h' H
    unfold zm72_11 at H
    refine zA_ld rfl rfl rfl ?_
    refine zA_aldn rfl rfl rfl ?_
    obtain ⟨p21, i22, e23, c24, H⟩ := zob_e H
    refine zA_gf3 rfl rfl e23 c24 ?_
    obtain ⟨p25, i26, v30, e27, c28, c29, e31, H⟩ := zlz_e H
    refine zA_l2 rfl rfl rfl e27 c28 c29 e31 ?_
    rcases zite_e H with ⟨c32, H⟩ | ⟨c32, H⟩
    · refine zA_brT (c := v30 ≤ x4) rfl rfl rfl c32 ?_
      refine zA_tr (L := [none, none, none, none, none, none]) rfl rfl ?_
      refine zA_push rfl rfl zkk5 ?_
      cases H
      exact zA_ret rfl (zret_Z (by decide))
    · refine zA_brF (c := v30 ≤ x4) rfl rfl rfl c32 ?_
      refine zA_aldn rfl rfl rfl ?_
      refine zA_gf3 rfl rfl e23 c24 ?_
      refine zA_ld rfl rfl rfl ?_
      obtain ⟨p33, i34, v39, e35, c36, c37, c38, e40, H⟩ := zlg_e H
      refine zA_l3 rfl rfl rfl e35 c36 c37 c38 e40 ?_
      obtain ⟨p41, i42, e43, c44, H⟩ := zob_e H
      refine zA_cast rfl rfl e43 c44 ?_
      refine zA_ast2 rfl rfl rfl (zset1 (L' := [some (zrv x0), some (zI x1), some (zI x2), some (zrv x3), some (zI x4), some (zrv v39)]) (zcat_rv _) rfl (zpcV rfl rfl)) ?_
      refine zA_ald rfl rfl rfl ?_
      refine zA_gf0 rfl rfl (Or.inl rfl) e43 c44 ?_
      refine zA_ldn rfl rfl rfl ?_
      rcases zite_e H with ⟨c45, H⟩ | ⟨c45, H⟩
      · refine zA_brF' (c := (zi h p41 i42 1) = x1) rfl rfl rfl c45 ?_
        refine zA_ald rfl rfl rfl ?_
        refine zA_aldn rfl rfl rfl ?_
        rcases zite_e H with ⟨c46, H⟩ | ⟨c46, H⟩
        · refine zA_brT (c := v39 = x3) rfl rfl zIf_aeq c46 ?_
          exact zA_tr (L := [some (zrv x0), some (zI x1), some (zI x2), some (zrv x3), some (zI x4), none]) rfl rfl (zmS72_36 ih _ _ _ _ _ _ _ _ H)
        · refine zA_brF (c := v39 = x3) rfl rfl zIf_aeq c46 ?_
          refine zA_ald rfl rfl rfl ?_
          refine zA_gf3 rfl rfl e43 c44 ?_
          refine zA_ldn rfl rfl rfl ?_
          obtain ⟨p47, i48, j49, v54, e50, c51, c52, e53, e55, H⟩ := zri_e H
          refine zA_ial rfl rfl e50 c51 c52 e53 e55 ?_
          rcases zite_e H with ⟨c56, H⟩ | ⟨c56, H⟩
          · refine zA_brT (c := v54 ≤ 0) rfl rfl rfl c56 ?_
            exact zA_tr (L := [some (zrv x0), some (zI x1), some (zI x2), some (zrv x3), some (zI x4), none]) rfl rfl (zmS72_36 ih _ _ _ _ _ _ _ _ H)
          · refine zA_brF (c := v54 ≤ 0) rfl rfl rfl c56 ?_
            refine zA_push rfl rfl zkk7 ?_
            cases H
            exact zA_ret rfl (zret_Z (by decide))
      · refine zA_brT' (c := (zi h p41 i42 1) = x1) rfl rfl rfl c45 ?_
        exact zA_tr (L := [some (zrv x0), some (zI x1), some (zI x2), some (zrv x3), some (zI x4), none]) rfl rfl (zmS72_36 ih _ _ _ _ _ _ _ _ H)
-- 72: ReleaseHouse.isDrained(II)Z
def zm72 (x0 : zq) (x1 : Int32) (x2 : Int32) (h : zH) : zRs Int32 :=
  zob 11 x0 fun p21 i22 =>
  zra (zr h p21 i22 6) x1 h fun v32 =>
  zob 8 v32 fun p34 i35 =>
  zra (zr h p34 i35 0) x2 h fun v45 =>
  zob 9 v45 fun p47 i48 =>
  zlet (zr h p47 i48 0) fun x51 =>
  zm72_11 zN0 x0 x1 x2 x51 (0 : Int32) h
theorem zmS72 {x0 : zq} {x1 : Int32} {x2 : Int32} {h : zH} {r : Int32 ⊕ Nat} {h' : zH} (H : zm72 x0 x1 x2 h = some (r, h')) : zAt 72 0 [some (zrv x0), some (zI x1), some (zI x2), none, none, none] [] h (zoI r) h' := by
  unfold zm72 at H
  refine zA_aldn rfl rfl rfl ?_
  obtain ⟨p21, i22, e23, c24, H⟩ := zob_e H
  refine zA_gf3 rfl rfl e23 c24 ?_
  refine zA_ldn rfl rfl rfl ?_
  obtain ⟨p25, i26, j27, v32, e28, c29, c30, e31, e33, H⟩ := zra_e H
  refine zA_aal rfl rfl e28 c29 c30 e31 e33 ?_
  obtain ⟨p34, i35, e36, c37, H⟩ := zob_e H
  refine zA_gf3 rfl rfl e36 c37 ?_
  refine zA_ldn rfl rfl rfl ?_
  obtain ⟨p38, i39, j40, v45, e41, c42, c43, e44, e46, H⟩ := zra_e H
  refine zA_aal rfl rfl e41 c42 c43 e44 e46 ?_
  obtain ⟨p47, i48, e49, c50, H⟩ := zob_e H
  refine zA_gf3 rfl rfl e49 c50 ?_
  obtain ⟨x51, e52, H⟩ := zlet_e H
  refine zA_astn2 rfl rfl e52 (zset1 (L' := [some (zrv x0), some (zI x1), some (zI x2), some (zrv x51), none, none]) (zcat_rv _) rfl (zpcV rfl rfl)) ?_
  refine zA_push rfl rfl zkk7 ?_
  refine zA_ist2 rfl rfl rfl (zset1 (L' := [some (zrv x0), some (zI x1), some (zI x2), some (zrv x51), some (zI (0 : Int32)), none]) rfl rfl (zpcV rfl (zcat_rv _))) ?_
  exact zA_tr (L := [some (zrv x0), some (zI x1), some (zI x2), some (zrv x51), some (zI (0 : Int32)), none]) rfl rfl (zmS72_11 zN0 _ _ _ _ _ _ _ _ H)
theorem zmE72 (x0 : zq) (x1 : Int32) (x2 : Int32) : zpad (zPr.2.1 72).1 (zil [zrv x0, zI x1, zI x2]) = [some (zrv x0), some (zI x1), some (zI x2), none, none, none] := by
  simp only [zil_A, zil_I, zil_F, zil_D, zil_N]
  rfl
-- 64: ReleaseHouse.reasonAtStep(LReleaseHouse$Release;)I
def zm64 (x0 : zq) (x1 : zq) (h : zH) : zRs Int32 :=
  zob 5 x1 fun p21 i22 =>
  zb (zm13 x1 h) fun x26 h25 =>
  zb (zm12 x1 h25) fun x28 h27 =>
  if x28.toInt < 0 ∨ 6 < x28.toInt then
    some (.inl (0 : Int32), h27)
  else if x28 = (0 : Int32) then
    zb (zm14 x1 h27) fun x103 h102 =>
    zob 11 x0 fun p104 i105 =>
    zb (zm65 x0 x1 x26 x103 h102) fun x109 h108 =>
    some (.inl x109, h108)
  else if x28 = (1 : Int32) then
    zob 11 x0 fun p96 i97 =>
    if x26 ≤ ((zi h27 p96 i97 11) - (zi h27 p21 i22 4)) then
      some (.inl (0 : Int32), h27)
    else
      some (.inl (8 : Int32), h27)
  else if x28 = (2 : Int32) then
    zob 11 x0 fun p57 i58 =>
    zob 0 (zr h27 p21 i22 0) fun p61 i62 =>
    zra (zr h27 p57 i58 6) (zi h27 p61 i62 1) h27 fun v72 =>
    zob 8 v72 fun p74 i75 =>
    zra (zr h27 p74 i75 0) x26 h27 fun v85 =>
    zob 9 v85 fun p87 i88 =>
    if (zr h27 p87 i88 1) = (zr h27 p21 i22 0) then
      zb (zm34 v85 h27) fun x93 h92 =>
      if x93 = 0 then
        some (.inl (9 : Int32), h92)
      else
        some (.inl (0 : Int32), h92)
    else
      some (.inl (9 : Int32), h27)
  else if x28 = (3 : Int32) then
    zb (zm292 (zi h27 p21 i22 5) h27) fun x54 h53 =>
    if x26 ≤ x54 then
      some (.inl (0 : Int32), h53)
    else
      some (.inl (10 : Int32), h53)
  else if x28 = (4 : Int32) then
    zb (zm14 x1 h27) fun x45 h44 =>
    zob 11 x0 fun p46 i47 =>
    zb (zm65 x0 x1 x26 x45 h44) fun x51 h50 =>
    some (.inl x51, h50)
  else if x28 = (5 : Int32) then
    if (zi h27 p21 i22 8) = 0 then
      some (.inl (11 : Int32), h27)
    else
      some (.inl (0 : Int32), h27)
  else if x28 = (6 : Int32) then
    zob 0 (zr h27 p21 i22 0) fun p30 i31 =>
    zob 11 x0 fun p34 i35 =>
    zb (zm72 x0 (zi h27 p30 i31 1) x26 h27) fun x39 h38 =>
    if x39 = 0 then
      some (.inl (12 : Int32), h38)
    else
      some (.inl (0 : Int32), h38)
  else none
theorem zmS64 {x0 : zq} {x1 : zq} {h : zH} {r : Int32 ⊕ Nat} {h' : zH} (H : zm64 x0 x1 h = some (r, h')) : zAt 64 0 [some (zrv x0), some (zrv x1), none, none] [] h (zoI r) h' := by
  unfold zm64 at H
  refine zA_aldn rfl rfl rfl ?_
  obtain ⟨p21, i22, e23, c24, H⟩ := zob_e H
  rcases zb_e H with ⟨x26, h25, C, H⟩ | ⟨E, h25, C, H⟩
  · refine zA_callV (as := [zrv x1]) (st' := []) rfl rfl rfl (zrcv_Q e23 c24) rfl (zmE13 _) rfl (zmS13 C) ?_
    refine zA_istn2 rfl rfl rfl (zset1 (L' := [some (zrv x0), some (zrv x1), some (zI x26), none]) rfl rfl (zpcV rfl (zcat_rv _))) ?_
    refine zA_aldn rfl rfl rfl ?_
    rcases zb_e H with ⟨x28, h27, C, H⟩ | ⟨E, h27, C, H⟩
    · refine zA_callV (as := [zrv x1]) (st' := []) rfl rfl rfl (zrcv_Q e23 c24) rfl (zmE12 _) rfl (zmS12 C) ?_
      rcases zite_e H with ⟨c29, H⟩ | ⟨c29, H⟩
      · refine zA_swD rfl rfl c29 ?_
        refine zA_tr (L := [none, none, none, none]) rfl rfl ?_
        refine zA_push rfl rfl zkk7 ?_
        cases H
        exact zA_ret rfl rfl
      · rcases zite_e H with ⟨c110, H⟩ | ⟨c110, H⟩
        · refine zA_swT (j := 0) (t := 6) rfl rfl c29 (by rw [c110]; decide) rfl ?_
          refine zA_aldn rfl rfl rfl ?_
          refine zA_aldn rfl rfl rfl ?_
          refine zA_ldn rfl rfl rfl ?_
          refine zA_aldn rfl rfl rfl ?_
          rcases zb_e H with ⟨x103, h102, C, H⟩ | ⟨E, h102, C, H⟩
          · refine zA_callV (as := [zrv x1]) (st' := [zI x26, zrv x1, zrv x0]) rfl rfl rfl (zrcv_Q e23 c24) rfl (zmE14 _) rfl (zmS14 C) ?_
            obtain ⟨p104, i105, e106, c107, H⟩ := zob_e H
            rcases zb_e H with ⟨x109, h108, C, H⟩ | ⟨E, h108, C, H⟩
            · refine zA_callV (as := [zrv x0, zrv x1, zI x26, zI x103]) (st' := []) rfl rfl rfl (zrcv_Q e106 c107) rfl (zmE65 _ _ _ _) rfl (zmS65 C) ?_
              cases H
              exact zA_ret rfl rfl
            · cases H
              exact zA_callX (as := [zrv x0, zrv x1, zI x26, zI x103]) (st' := []) rfl rfl (zrcv_Q e106 c107) rfl (zmE65 _ _ _ _) rfl rfl rfl (zmS65 C)
          · cases H
            exact zA_callX (as := [zrv x1]) (st' := [zI x26, zrv x1, zrv x0]) rfl rfl (zrcv_Q e23 c24) rfl (zmE14 _) rfl rfl rfl (zmS14 C)
        · rcases zite_e H with ⟨c101, H⟩ | ⟨c101, H⟩
          · refine zA_swT (j := 1) (t := 13) rfl rfl c29 (by rw [c101]; decide) rfl ?_
            refine zA_aldn rfl rfl rfl ?_
            obtain ⟨p96, i97, e98, c99, H⟩ := zob_e H
            refine zA_gf0 rfl rfl (Or.inl rfl) e98 c99 ?_
            refine zA_aldn rfl rfl rfl ?_
            refine zA_gf0 rfl rfl (Or.inl rfl) e23 c24 ?_
            refine zA_st (st' := [zI ((zi h27 p96 i97 11) - (zi h27 p21 i22 4))]) rfl rfl rfl rfl ?_
            refine zA_ldn rfl rfl rfl ?_
            rcases zite_e H with ⟨c100, H⟩ | ⟨c100, H⟩
            · refine zA_brT (c := x26 ≤ ((zi h27 p96 i97 11) - (zi h27 p21 i22 4))) rfl rfl rfl c100 ?_
              refine zA_tr (L := [none, none, none, none]) rfl rfl ?_
              refine zA_push rfl rfl zkk7 ?_
              cases H
              exact zA_ret rfl rfl
            · refine zA_brF (c := x26 ≤ ((zi h27 p96 i97 11) - (zi h27 p21 i22 4))) rfl rfl rfl c100 ?_
              refine zA_push rfl rfl zkk0 ?_
              refine zA_go rfl rfl ?_
              refine zA_tr (L := [none, none, none, none]) rfl rfl ?_
              cases H
              exact zA_ret rfl rfl
          · rcases zite_e H with ⟨c95, H⟩ | ⟨c95, H⟩
            · refine zA_swT (j := 2) (t := 24) rfl rfl c29 (by rw [c95]; decide) rfl ?_
              refine zA_aldn rfl rfl rfl ?_
              obtain ⟨p57, i58, e59, c60, H⟩ := zob_e H
              refine zA_gf3 rfl rfl e59 c60 ?_
              refine zA_aldn rfl rfl rfl ?_
              refine zA_gf3 rfl rfl e23 c24 ?_
              obtain ⟨p61, i62, e63, c64, H⟩ := zob_e H
              refine zA_gf0 rfl rfl (Or.inl rfl) e63 c64 ?_
              obtain ⟨p65, i66, j67, v72, e68, c69, c70, e71, e73, H⟩ := zra_e H
              refine zA_aal rfl rfl e68 c69 c70 e71 e73 ?_
              obtain ⟨p74, i75, e76, c77, H⟩ := zob_e H
              refine zA_gf3 rfl rfl e76 c77 ?_
              refine zA_ldn rfl rfl rfl ?_
              obtain ⟨p78, i79, j80, v85, e81, c82, c83, e84, e86, H⟩ := zra_e H
              refine zA_aal rfl rfl e81 c82 c83 e84 e86 ?_
              refine zA_astn2 rfl rfl rfl (zset1 (L' := [some (zrv x0), some (zrv x1), some (zI x26), some (zrv v85)]) (zcat_rv _) rfl (zpcV rfl rfl)) ?_
              refine zA_aldn rfl rfl rfl ?_
              obtain ⟨p87, i88, e89, c90, H⟩ := zob_e H
              refine zA_gf3 rfl rfl e89 c90 ?_
              refine zA_aldn rfl rfl rfl ?_
              refine zA_gf3 rfl rfl e23 c24 ?_
              rcases zite_e H with ⟨c91, H⟩ | ⟨c91, H⟩
              · refine zA_brF' (c := (zr h27 p87 i88 1) = (zr h27 p21 i22 0)) rfl rfl zIf_ane c91 ?_
                refine zA_aldn rfl rfl rfl ?_
                rcases zb_e H with ⟨x93, h92, C, H⟩ | ⟨E, h92, C, H⟩
                · refine zA_callV (as := [zrv v85]) (st' := []) rfl rfl rfl (zrcv_Q e89 c90) rfl (zmE34 _) rfl (zmS34 C) ?_
                  rcases zite_e H with ⟨c94, H⟩ | ⟨c94, H⟩
                  · refine zA_brF' (c := x93 = 0) rfl rfl rfl c94 ?_
                    refine zA_tr (L := [none, none, none, none]) rfl rfl ?_
                    refine zA_push rfl rfl zkk19 ?_
                    refine zA_go rfl rfl ?_
                    cases H
                    exact zA_ret rfl rfl
                  · refine zA_brT' (c := x93 = 0) rfl rfl rfl c94 ?_
                    refine zA_tr (L := [none, none, none, none]) rfl rfl ?_
                    refine zA_push rfl rfl zkk7 ?_
                    cases H
                    exact zA_ret rfl rfl
                · cases H
                  exact zA_callX (as := [zrv v85]) (st' := []) rfl rfl (zrcv_Q e89 c90) rfl (zmE34 _) rfl rfl rfl (zmS34 C)
              · refine zA_brT' (c := (zr h27 p87 i88 1) = (zr h27 p21 i22 0)) rfl rfl zIf_ane c91 ?_
                refine zA_tr (L := [none, none, none, none]) rfl rfl ?_
                refine zA_push rfl rfl zkk19 ?_
                refine zA_go rfl rfl ?_
                cases H
                exact zA_ret rfl rfl
            · rcases zite_e H with ⟨c56, H⟩ | ⟨c56, H⟩
              · refine zA_swT (j := 3) (t := 46) rfl rfl c29 (by rw [c56]; decide) rfl ?_
                refine zA_tr (L := [none, some (zrv x1), some (zI x26), none]) rfl rfl ?_
                refine zA_aldn rfl rfl rfl ?_
                refine zA_gf0 rfl rfl (Or.inl rfl) e23 c24 ?_
                rcases zb_e H with ⟨x54, h53, C, H⟩ | ⟨E, h53, C, H⟩
                · refine zA_callV (as := [zI (zi h27 p21 i22 5)]) (st' := []) rfl rfl rfl rfl rfl (zmE292 _) rfl (zmS292 C) ?_
                  refine zA_ldn rfl rfl rfl ?_
                  rcases zite_e H with ⟨c55, H⟩ | ⟨c55, H⟩
                  · refine zA_brT (c := x26 ≤ x54) rfl rfl rfl c55 ?_
                    refine zA_tr (L := [none, none, none, none]) rfl rfl ?_
                    refine zA_push rfl rfl zkk7 ?_
                    cases H
                    exact zA_ret rfl rfl
                  · refine zA_brF (c := x26 ≤ x54) rfl rfl rfl c55 ?_
                    refine zA_push rfl rfl zkk27 ?_
                    refine zA_go rfl rfl ?_
                    refine zA_tr (L := [none, none, none, none]) rfl rfl ?_
                    cases H
                    exact zA_ret rfl rfl
                · cases H
                  exact zA_callX (as := [zI (zi h27 p21 i22 5)]) (st' := []) rfl rfl rfl rfl (zmE292 _) rfl rfl rfl (zmS292 C)
              · rcases zite_e H with ⟨c52, H⟩ | ⟨c52, H⟩
                · refine zA_swT (j := 4) (t := 6) rfl rfl c29 (by rw [c52]; decide) rfl ?_
                  refine zA_aldn rfl rfl rfl ?_
                  refine zA_aldn rfl rfl rfl ?_
                  refine zA_ldn rfl rfl rfl ?_
                  refine zA_aldn rfl rfl rfl ?_
                  rcases zb_e H with ⟨x45, h44, C, H⟩ | ⟨E, h44, C, H⟩
                  · refine zA_callV (as := [zrv x1]) (st' := [zI x26, zrv x1, zrv x0]) rfl rfl rfl (zrcv_Q e23 c24) rfl (zmE14 _) rfl (zmS14 C) ?_
                    obtain ⟨p46, i47, e48, c49, H⟩ := zob_e H
                    rcases zb_e H with ⟨x51, h50, C, H⟩ | ⟨E, h50, C, H⟩
                    · refine zA_callV (as := [zrv x0, zrv x1, zI x26, zI x45]) (st' := []) rfl rfl rfl (zrcv_Q e48 c49) rfl (zmE65 _ _ _ _) rfl (zmS65 C) ?_
                      cases H
                      exact zA_ret rfl rfl
                    · cases H
                      exact zA_callX (as := [zrv x0, zrv x1, zI x26, zI x45]) (st' := []) rfl rfl (zrcv_Q e48 c49) rfl (zmE65 _ _ _ _) rfl rfl rfl (zmS65 C)
                  · cases H
                    exact zA_callX (as := [zrv x1]) (st' := [zI x26, zrv x1, zrv x0]) rfl rfl (zrcv_Q e23 c24) rfl (zmE14 _) rfl rfl rfl (zmS14 C)
                · rcases zite_e H with ⟨c43, H⟩ | ⟨c43, H⟩
                  · refine zA_swT (j := 5) (t := 55) rfl rfl c29 (by rw [c43]; decide) rfl ?_
                    refine zA_tr (L := [none, some (zrv x1), none, none]) rfl rfl ?_
                    refine zA_aldn rfl rfl rfl ?_
                    refine zA_gf0 rfl rfl (Or.inr rfl) e23 c24 ?_
                    rcases zite_e H with ⟨c42, H⟩ | ⟨c42, H⟩
                    · refine zA_brT (c := (zi h27 p21 i22 8) = 0) rfl rfl rfl c42 ?_
                      refine zA_tr (L := [none, none, none, none]) rfl rfl ?_
                      refine zA_push rfl rfl zkk38 ?_
                      cases H
                      exact zA_ret rfl rfl
                    · refine zA_brF (c := (zi h27 p21 i22 8) = 0) rfl rfl rfl c42 ?_
                      refine zA_push rfl rfl zkk7 ?_
                      refine zA_go rfl rfl ?_
                      refine zA_tr (L := [none, none, none, none]) rfl rfl ?_
                      cases H
                      exact zA_ret rfl rfl
                  · rcases zite_e H with ⟨c41, H⟩ | ⟨c41, H⟩
                    · refine zA_swT (j := 6) (t := 62) rfl rfl c29 (by rw [c41]; decide) rfl ?_
                      refine zA_aldn rfl rfl rfl ?_
                      refine zA_aldn rfl rfl rfl ?_
                      refine zA_gf3 rfl rfl e23 c24 ?_
                      obtain ⟨p30, i31, e32, c33, H⟩ := zob_e H
                      refine zA_gf0 rfl rfl (Or.inl rfl) e32 c33 ?_
                      refine zA_ldn rfl rfl rfl ?_
                      obtain ⟨p34, i35, e36, c37, H⟩ := zob_e H
                      rcases zb_e H with ⟨x39, h38, C, H⟩ | ⟨E, h38, C, H⟩
                      · refine zA_callV (as := [zrv x0, zI (zi h27 p30 i31 1), zI x26]) (st' := []) rfl rfl rfl (zrcv_Q e36 c37) rfl (zmE72 _ _ _) rfl (zmS72 C) ?_
                        rcases zite_e H with ⟨c40, H⟩ | ⟨c40, H⟩
                        · refine zA_brT (c := x39 = 0) rfl rfl rfl c40 ?_
                          refine zA_tr (L := [none, none, none, none]) rfl rfl ?_
                          refine zA_push rfl rfl zkk11 ?_
                          cases H
                          exact zA_ret rfl rfl
                        · refine zA_brF (c := x39 = 0) rfl rfl rfl c40 ?_
                          refine zA_push rfl rfl zkk7 ?_
                          refine zA_go rfl rfl ?_
                          refine zA_tr (L := [none, none, none, none]) rfl rfl ?_
                          cases H
                          exact zA_ret rfl rfl
                      · cases H
                        exact zA_callX (as := [zrv x0, zI (zi h27 p30 i31 1), zI x26]) (st' := []) rfl rfl (zrcv_Q e36 c37) rfl (zmE72 _ _ _) rfl rfl rfl (zmS72 C)
                    · cases H
    · cases H
      exact zA_callX (as := [zrv x1]) (st' := []) rfl rfl (zrcv_Q e23 c24) rfl (zmE12 _) rfl rfl rfl (zmS12 C)
  · cases H
    exact zA_callX (as := [zrv x1]) (st' := []) rfl rfl (zrcv_Q e23 c24) rfl (zmE13 _) rfl rfl rfl (zmS13 C)
theorem zmE64 (x0 : zq) (x1 : zq) : zpad (zPr.2.1 64).1 (zil [zrv x0, zrv x1]) = [some (zrv x0), some (zrv x1), none, none] := by
  simp only [zil_A, zil_I, zil_F, zil_D, zil_N]
  rfl
-- 63: ReleaseHouse.why(I)I
def zm63 (x0 : zq) (x1 : Int32) (h : zH) : zRs Int32 :=
  zob 11 x0 fun p21 i22 =>
  zlz (zr h p21 i22 2) h fun v30 =>
  zb (zm130 x1 v30 h) fun _ h32 =>
  zlg (zr h32 p21 i22 2) x1 h32 fun v39 =>
  zob 5 v39 fun p41 i42 =>
  zb (zm10 v39 h32) fun x46 h45 =>
  if x46 = 0 then
    if (zi h45 p21 i22 13) = 0 then
      if (zi h45 p41 i42 2) = (1 : Int32) then
        some (.inl (1 : Int32), h45)
      else
        zb (zm64 x0 v39 h45) fun x51 h50 =>
        some (.inl x51, h50)
    else
      some (.inl (13 : Int32), h45)
  else
    some (.inl (14 : Int32), h45)
theorem zmS63 {x0 : zq} {x1 : Int32} {h : zH} {r : Int32 ⊕ Nat} {h' : zH} (H : zm63 x0 x1 h = some (r, h')) : zAt 63 0 [some (zrv x0), some (zI x1), none] [] h (zoI r) h' := by
  unfold zm63 at H
  refine zA_ldn rfl rfl rfl ?_
  refine zA_aldn rfl rfl rfl ?_
  obtain ⟨p21, i22, e23, c24, H⟩ := zob_e H
  refine zA_gf3 rfl rfl e23 c24 ?_
  obtain ⟨p25, i26, v30, e27, c28, c29, e31, H⟩ := zlz_e H
  refine zA_l2 rfl rfl rfl e27 c28 c29 e31 ?_
  rcases zb_e H with ⟨u52, h32, C, H⟩ | ⟨E, h32, C, H⟩
  · refine zA_callU (as := [zI x1, zI v30]) (st' := []) rfl rfl rfl rfl rfl (zmE130 _ _) rfl (zmS130 C) ?_
    refine zA_aldn rfl rfl rfl ?_
    refine zA_gf3 rfl rfl e23 c24 ?_
    refine zA_ldn rfl rfl rfl ?_
    obtain ⟨p33, i34, v39, e35, c36, c37, c38, e40, H⟩ := zlg_e H
    refine zA_l3 rfl rfl rfl e35 c36 c37 c38 e40 ?_
    obtain ⟨p41, i42, e43, c44, H⟩ := zob_e H
    refine zA_cast rfl rfl e43 c44 ?_
    refine zA_astn2 rfl rfl rfl (zset1 (L' := [some (zrv x0), some (zI x1), some (zrv v39)]) (zcat_rv _) rfl (zpcV rfl rfl)) ?_
    refine zA_aldn rfl rfl rfl ?_
    rcases zb_e H with ⟨x46, h45, C, H⟩ | ⟨E, h45, C, H⟩
    · refine zA_callV (as := [zrv v39]) (st' := []) rfl rfl rfl (zrcv_Q e43 c44) rfl (zmE10 _) rfl (zmS10 C) ?_
      rcases zite_e H with ⟨c47, H⟩ | ⟨c47, H⟩
      · refine zA_brT (c := x46 = 0) rfl rfl rfl c47 ?_
        refine zA_tr (L := [some (zrv x0), none, some (zrv v39)]) rfl rfl ?_
        refine zA_aldn rfl rfl rfl ?_
        refine zA_gf0 rfl rfl (Or.inr rfl) e23 c24 ?_
        rcases zite_e H with ⟨c48, H⟩ | ⟨c48, H⟩
        · refine zA_brT (c := (zi h45 p21 i22 13) = 0) rfl rfl rfl c48 ?_
          refine zA_aldn rfl rfl rfl ?_
          refine zA_gf0 rfl rfl (Or.inl rfl) e43 c44 ?_
          refine zA_push rfl rfl zkk5 ?_
          rcases zite_e H with ⟨c49, H⟩ | ⟨c49, H⟩
          · refine zA_brF' (c := (zi h45 p41 i42 2) = (1 : Int32)) rfl rfl rfl c49 ?_
            refine zA_push rfl rfl zkk5 ?_
            refine zA_go rfl rfl ?_
            refine zA_tr (L := [none, none, none]) rfl rfl ?_
            cases H
            exact zA_ret rfl rfl
          · refine zA_brT' (c := (zi h45 p41 i42 2) = (1 : Int32)) rfl rfl rfl c49 ?_
            refine zA_aldn rfl rfl rfl ?_
            refine zA_aldn rfl rfl rfl ?_
            rcases zb_e H with ⟨x51, h50, C, H⟩ | ⟨E, h50, C, H⟩
            · refine zA_callV (as := [zrv x0, zrv v39]) (st' := []) rfl rfl rfl (zrcv_Q e23 c24) rfl (zmE64 _ _) rfl (zmS64 C) ?_
              refine zA_tr (L := [none, none, none]) rfl rfl ?_
              cases H
              exact zA_ret rfl rfl
            · cases H
              exact zA_callX (as := [zrv x0, zrv v39]) (st' := []) rfl rfl (zrcv_Q e23 c24) rfl (zmE64 _ _) rfl rfl rfl (zmS64 C)
        · refine zA_brF (c := (zi h45 p21 i22 13) = 0) rfl rfl rfl c48 ?_
          refine zA_push rfl rfl zkk39 ?_
          cases H
          exact zA_ret rfl rfl
      · refine zA_brF (c := x46 = 0) rfl rfl rfl c47 ?_
        refine zA_push rfl rfl zkk40 ?_
        cases H
        exact zA_ret rfl rfl
    · cases H
      exact zA_callX (as := [zrv v39]) (st' := []) rfl rfl (zrcv_Q e43 c44) rfl (zmE10 _) rfl rfl rfl (zmS10 C)
  · cases H
    exact zA_callX (as := [zI x1, zI v30]) (st' := []) rfl rfl rfl rfl (zmE130 _ _) rfl rfl rfl (zmS130 C)
theorem zmE63 (x0 : zq) (x1 : Int32) : zpad (zPr.2.1 63).1 (zil [zrv x0, zI x1]) = [some (zrv x0), some (zI x1), none] := by
  simp only [zil_A, zil_I, zil_F, zil_D, zil_N]
  rfl
-- 252: ReleaseHouseLaw.why(LReleaseHouse;I[J)I
def zm252 (x0 : zq) (x1 : Int32) (x2 : zq) (h : zH) : zRs Int32 :=
  zob 11 x0 fun p21 i22 =>
  zbH [(0, 7, 2, 1)] 4 (zm63 x0 x1 h) fun x26 h25 =>
  zar 3 x2 (0 : Int32) h25 fun p27 i28 j29 =>
  zlet (zsl h25 p27 i28 j29 (x26.toInt64)) fun h34 =>
  some (.inl (0 : Int32), h34)
theorem zmS252 {x0 : zq} {x1 : Int32} {x2 : zq} {h : zH} {r : Int32 ⊕ Nat} {h' : zH} (H : zm252 x0 x1 x2 h = some (r, h')) : zAt 252 0 [some (zrv x0), some (zI x1), some (zrv x2), none] [] h (zoI r) h' := by
  unfold zm252 at H
  refine zA_aldn rfl rfl rfl ?_
  refine zA_push rfl rfl zkk7 ?_
  refine zA_aldn rfl rfl rfl ?_
  refine zA_ldn rfl rfl rfl ?_
  obtain ⟨p21, i22, e23, c24, H⟩ := zob_e H
  rcases zbH_e H with ⟨x26, h25, C, H⟩ | ⟨E, h25, c36, C, hc, H⟩
  · refine zA_callV (as := [zrv x0, zI x1]) (st' := [zI (0 : Int32), zrv x2]) rfl rfl rfl (zrcv_Q e23 c24) rfl (zmE63 _ _) rfl (zmS63 C) ?_
    refine zA_st (st' := [zJ (x26.toInt64), zI (0 : Int32), zrv x2]) rfl rfl rfl rfl ?_
    obtain ⟨p27, i28, j29, e30, c31, c32, e33, H⟩ := zar_e H
    obtain ⟨h34, e35, H⟩ := zlet_e H
    refine zA_las rfl rfl e30 c31 c32 e33 e35 ?_
    refine zA_go rfl rfl ?_
    refine zA_tr (L := [none, none, none, none]) rfl rfl ?_
    refine zA_push rfl rfl zkk7 ?_
    cases H
    exact zA_ret rfl rfl
  · cases H
    exact zA_callH (as := [zrv x0, zI x1]) (st' := [zI (0 : Int32), zrv x2]) rfl rfl (zrcv_Q e23 c24) rfl (zmE63 _ _) rfl rfl rfl (List.cons_ne_nil _ _) hc (zmS63 C)
theorem zmE252 (x0 : zq) (x1 : Int32) (x2 : zq) : zpad (zPr.2.1 252).1 (zil [zrv x0, zI x1, zrv x2]) = [some (zrv x0), some (zI x1), some (zrv x2), none] := by
  simp only [zil_A, zil_I, zil_F, zil_D, zil_N]
  rfl
def zm164_64 (k9 : zq → Int32 → Int32 → Int32 → Int32 → Int32 → zH → zRs Int32) (x0 : zq) (x1 : Int32) (x2 : Int32) (x3 : Int32) (x5 : Int32) (s0 : Int32) (h : zH) : zRs Int32 :=
  zlet (x5 + (1 : Int32)) fun x21 =>
  k9 x0 x1 x2 x3 s0 x21 h
theorem zmS164_64 {k9 : zq → Int32 → Int32 → Int32 → Int32 → Int32 → zH → zRs Int32} (hk9 : ∀ (x0 : zq) (x1 : Int32) (x2 : Int32) (x3 : Int32) (x4 : Int32) (x5 : Int32) (h : zH) (r : Int32 ⊕ Nat) (h' : zH), k9 x0 x1 x2 x3 x4 x5 h = some (r, h') → zAt 164 9 [some (zrv x0), some (zI x1), some (zI x2), some (zI x3), some (zI x4), some (zI x5), none] [] h (zoI r) h') : ∀ (x0 : zq) (x1 : Int32) (x2 : Int32) (x3 : Int32) (x5 : Int32) (s0 : Int32) (h : zH) (r : Int32 ⊕ Nat) (h' : zH), zm164_64 k9 x0 x1 x2 x3 x5 s0 h = some (r, h') → zAt 164 64 [some (zrv x0), some (zI x1), some (zI x2), some (zI x3), none, some (zI x5), none] [zI s0] h (zoI r) h' := by
  intro x0 x1 x2 x3 x5 s0 h r h' H
  unfold zm164_64 at H
  refine zA_ist2 rfl rfl rfl (zset1 (L' := [some (zrv x0), some (zI x1), some (zI x2), some (zI x3), some (zI s0), some (zI x5), none]) rfl rfl (zpcV rfl rfl)) ?_
  obtain ⟨x21, e22, H⟩ := zlet_e H
  refine zA_inc rfl rfl rfl (e22.trans (congrArg (_ + ·) zkk8)) (zset1 (L' := [some (zrv x0), some (zI x1), some (zI x2), some (zI x3), some (zI s0), some (zI x21), none]) rfl rfl (zpcV rfl rfl)) ?_
  refine zA_go rfl rfl ?_
  exact zA_tr (L := [some (zrv x0), some (zI x1), some (zI x2), some (zI x3), some (zI s0), some (zI x21), none]) rfl rfl (hk9 _ _ _ _ _ _ _ _ _ H)
def zm164_38 (k9 : zq → Int32 → Int32 → Int32 → Int32 → Int32 → zH → zRs Int32) (x0 : zq) (x1 : Int32) (x2 : Int32) (x3 : Int32) (x4 : Int32) (x5 : Int32) (s0 : Int32) (h : zH) : zRs Int32 :=
  if x4 = 0 then
    zob 12 x0 fun p22 i23 =>
    zri (zr h p22 i23 52) x5 h fun v33 =>
    if v33 = x2 then
      zri (zr h p22 i23 53) x5 h fun v43 =>
      zri (zr h p22 i23 54) x5 h fun v52 =>
      zb (zm139 (zi h p22 i23 1) v43 v52 h) fun x55 h54 =>
      if x55 = 0 then
        zm164_64 k9 x0 x1 x2 x3 x5 (0 : Int32) h54
      else
        if s0 = 0 then
          zm164_64 k9 x0 x1 x2 x3 x5 (0 : Int32) h54
        else
          zm164_64 k9 x0 x1 x2 x3 x5 (1 : Int32) h54
    else
      zm164_64 k9 x0 x1 x2 x3 x5 (0 : Int32) h
  else
    zm164_64 k9 x0 x1 x2 x3 x5 (1 : Int32) h
theorem zmS164_38 {k9 : zq → Int32 → Int32 → Int32 → Int32 → Int32 → zH → zRs Int32} (hk9 : ∀ (x0 : zq) (x1 : Int32) (x2 : Int32) (x3 : Int32) (x4 : Int32) (x5 : Int32) (h : zH) (r : Int32 ⊕ Nat) (h' : zH), k9 x0 x1 x2 x3 x4 x5 h = some (r, h') → zAt 164 9 [some (zrv x0), some (zI x1), some (zI x2), some (zI x3), some (zI x4), some (zI x5), none] [] h (zoI r) h') : ∀ (x0 : zq) (x1 : Int32) (x2 : Int32) (x3 : Int32) (x4 : Int32) (x5 : Int32) (s0 : Int32) (h : zH) (r : Int32 ⊕ Nat) (h' : zH), zm164_38 k9 x0 x1 x2 x3 x4 x5 s0 h = some (r, h') → zAt 164 38 [some (zrv x0), some (zI x1), some (zI x2), some (zI x3), some (zI x4), some (zI x5), none] [zI s0] h (zoI r) h' := by
  intro x0 x1 x2 x3 x4 x5 s0 h r h' H
  unfold zm164_38 at H
  refine zA_ist2 rfl rfl rfl (zset1 (L' := [some (zrv x0), some (zI x1), some (zI x2), some (zI x3), some (zI x4), some (zI x5), some (zI s0)]) rfl rfl (zpcV rfl rfl)) ?_
  refine zA_ld rfl rfl rfl ?_
  rcases zite_e H with ⟨c21, H⟩ | ⟨c21, H⟩
  · refine zA_brF' (c := x4 = 0) rfl rfl rfl c21 ?_
    refine zA_aldn rfl rfl rfl ?_
    obtain ⟨p22, i23, e24, c25, H⟩ := zob_e H
    refine zA_gf3 rfl rfl e24 c25 ?_
    refine zA_ld rfl rfl rfl ?_
    obtain ⟨p26, i27, j28, v33, e29, c30, c31, e32, e34, H⟩ := zri_e H
    refine zA_ial rfl rfl e29 c30 c31 e32 e34 ?_
    refine zA_ldn rfl rfl rfl ?_
    rcases zite_e H with ⟨c35, H⟩ | ⟨c35, H⟩
    · refine zA_brF' (c := v33 = x2) rfl rfl rfl c35 ?_
      refine zA_aldn rfl rfl rfl ?_
      refine zA_gf0 rfl rfl (Or.inl rfl) e24 c25 ?_
      refine zA_aldn rfl rfl rfl ?_
      refine zA_gf3 rfl rfl e24 c25 ?_
      refine zA_ld rfl rfl rfl ?_
      obtain ⟨p36, i37, j38, v43, e39, c40, c41, e42, e44, H⟩ := zri_e H
      refine zA_ial rfl rfl e39 c40 c41 e42 e44 ?_
      refine zA_aldn rfl rfl rfl ?_
      refine zA_gf3 rfl rfl e24 c25 ?_
      refine zA_ld rfl rfl rfl ?_
      obtain ⟨p45, i46, j47, v52, e48, c49, c50, e51, e53, H⟩ := zri_e H
      refine zA_ial rfl rfl e48 c49 c50 e51 e53 ?_
      rcases zb_e H with ⟨x55, h54, C, H⟩ | ⟨E, h54, C, H⟩
      · refine zA_callV (as := [zI (zi h p22 i23 1), zI v43, zI v52]) (st' := []) rfl rfl rfl rfl rfl (zmE139 _ _ _) rfl (zmS139 C) ?_
        rcases zite_e H with ⟨c56, H⟩ | ⟨c56, H⟩
        · refine zA_brT (c := x55 = 0) rfl rfl rfl c56 ?_
          refine zA_tr (L := [some (zrv x0), some (zI x1), some (zI x2), some (zI x3), none, some (zI x5), none]) rfl rfl ?_
          refine zA_push rfl rfl zkk7 ?_
          exact zA_tr (L := [some (zrv x0), some (zI x1), some (zI x2), some (zI x3), none, some (zI x5), none]) rfl rfl (zmS164_64 hk9 _ _ _ _ _ _ _ _ _ H)
        · refine zA_brF (c := x55 = 0) rfl rfl rfl c56 ?_
          refine zA_ld rfl rfl rfl ?_
          rcases zite_e H with ⟨c57, H⟩ | ⟨c57, H⟩
          · refine zA_brT (c := s0 = 0) rfl rfl rfl c57 ?_
            refine zA_tr (L := [some (zrv x0), some (zI x1), some (zI x2), some (zI x3), none, some (zI x5), none]) rfl rfl ?_
            refine zA_push rfl rfl zkk7 ?_
            exact zA_tr (L := [some (zrv x0), some (zI x1), some (zI x2), some (zI x3), none, some (zI x5), none]) rfl rfl (zmS164_64 hk9 _ _ _ _ _ _ _ _ _ H)
          · refine zA_brF (c := s0 = 0) rfl rfl rfl c57 ?_
            refine zA_tr (L := [some (zrv x0), some (zI x1), some (zI x2), some (zI x3), none, some (zI x5), none]) rfl rfl ?_
            refine zA_push rfl rfl zkk5 ?_
            refine zA_go rfl rfl ?_
            exact zA_tr (L := [some (zrv x0), some (zI x1), some (zI x2), some (zI x3), none, some (zI x5), none]) rfl rfl (zmS164_64 hk9 _ _ _ _ _ _ _ _ _ H)
      · cases H
        exact zA_callX (as := [zI (zi h p22 i23 1), zI v43, zI v52]) (st' := []) rfl rfl rfl rfl (zmE139 _ _ _) rfl rfl rfl (zmS139 C)
    · refine zA_brT' (c := v33 = x2) rfl rfl rfl c35 ?_
      refine zA_tr (L := [some (zrv x0), some (zI x1), some (zI x2), some (zI x3), none, some (zI x5), none]) rfl rfl ?_
      refine zA_push rfl rfl zkk7 ?_
      exact zA_tr (L := [some (zrv x0), some (zI x1), some (zI x2), some (zI x3), none, some (zI x5), none]) rfl rfl (zmS164_64 hk9 _ _ _ _ _ _ _ _ _ H)
  · refine zA_brT' (c := x4 = 0) rfl rfl rfl c21 ?_
    refine zA_tr (L := [some (zrv x0), some (zI x1), some (zI x2), some (zI x3), none, some (zI x5), none]) rfl rfl ?_
    refine zA_push rfl rfl zkk5 ?_
    refine zA_go rfl rfl ?_
    exact zA_tr (L := [some (zrv x0), some (zI x1), some (zI x2), some (zI x3), none, some (zI x5), none]) rfl rfl (zmS164_64 hk9 _ _ _ _ _ _ _ _ _ H)
def zm164_9 (k67 : zq → Int32 → Int32 → zH → zRs Int32) : Nat → zq → Int32 → Int32 → Int32 → Int32 → Int32 → zH → zRs Int32
  | 0, _, _, _, _, _, _, _ => none
  | n + 1, x0, x1, x2, x3, x4, x5, h =>
    zob 12 x0 fun p21 i22 =>
    if (zi h p21 i22 51) ≤ x5 then
      k67 x0 x1 x4 h
    else
      zri (zr h p21 i22 55) x5 h fun v33 =>
      if v33 = (3 : Int32) then
        zm164_38 (zm164_9 k67 n) x0 x1 x2 x3 x4 x5 (1 : Int32) h
      else
        zrb (zr h p21 i22 10) x3 h fun v43 =>
        if v43 = 0 then
          zri (zr h p21 i22 55) x5 h fun v53 =>
          if v53 = (2 : Int32) then
            zm164_38 (zm164_9 k67 n) x0 x1 x2 x3 x4 x5 (1 : Int32) h
          else
            zrb (zr h p21 i22 11) x3 h fun v63 =>
            if v63 = 0 then
              zm164_38 (zm164_9 k67 n) x0 x1 x2 x3 x4 x5 (0 : Int32) h
            else
              zm164_38 (zm164_9 k67 n) x0 x1 x2 x3 x4 x5 (1 : Int32) h
        else
          zm164_38 (zm164_9 k67 n) x0 x1 x2 x3 x4 x5 (0 : Int32) h
theorem zmS164_9 {k67 : zq → Int32 → Int32 → zH → zRs Int32} (hk67 : ∀ (x0 : zq) (x1 : Int32) (x4 : Int32) (h : zH) (r : Int32 ⊕ Nat) (h' : zH), k67 x0 x1 x4 h = some (r, h') → zAt 164 67 [some (zrv x0), some (zI x1), none, none, some (zI x4), none, none] [] h (zoI r) h') : ∀ (n : Nat) (x0 : zq) (x1 : Int32) (x2 : Int32) (x3 : Int32) (x4 : Int32) (x5 : Int32) (h : zH) (r : Int32 ⊕ Nat) (h' : zH), zm164_9 k67 n x0 x1 x2 x3 x4 x5 h = some (r, h') → zAt 164 9 [some (zrv x0), some (zI x1), some (zI x2), some (zI x3), some (zI x4), some (zI x5), none] [] h (zoI r) h' := by
  intro n
  induction n with
  | zero => intro x0 x1 x2 x3 x4 x5 h r h' H; cases H
  | succ n ih =>
    intro x0 x1 x2 x3 x4 x5 h r h' H
    unfold zm164_9 at H
    refine zA_ld rfl rfl rfl ?_
    refine zA_aldn rfl rfl rfl ?_
    obtain ⟨p21, i22, e23, c24, H⟩ := zob_e H
    refine zA_gf0 rfl rfl (Or.inl rfl) e23 c24 ?_
    rcases zite_e H with ⟨c25, H⟩ | ⟨c25, H⟩
    · refine zA_brT (c := (zi h p21 i22 51) ≤ x5) rfl rfl rfl c25 ?_
      exact zA_tr (L := [some (zrv x0), some (zI x1), none, none, some (zI x4), none, none]) rfl rfl (hk67 _ _ _ _ _ _ H)
    · refine zA_brF (c := (zi h p21 i22 51) ≤ x5) rfl rfl rfl c25 ?_
      refine zA_aldn rfl rfl rfl ?_
      refine zA_gf3 rfl rfl e23 c24 ?_
      refine zA_ld rfl rfl rfl ?_
      obtain ⟨p26, i27, j28, v33, e29, c30, c31, e32, e34, H⟩ := zri_e H
      refine zA_ial rfl rfl e29 c30 c31 e32 e34 ?_
      refine zA_push rfl rfl zkk3 ?_
      rcases zite_e H with ⟨c35, H⟩ | ⟨c35, H⟩
      · refine zA_brT (c := v33 = (3 : Int32)) rfl rfl rfl c35 ?_
        refine zA_push rfl rfl zkk5 ?_
        refine zA_go rfl rfl ?_
        exact zA_tr (L := [some (zrv x0), some (zI x1), some (zI x2), some (zI x3), some (zI x4), some (zI x5), none]) rfl rfl (zmS164_38 ih _ _ _ _ _ _ _ _ _ _ H)
      · refine zA_brF (c := v33 = (3 : Int32)) rfl rfl rfl c35 ?_
        refine zA_aldn rfl rfl rfl ?_
        refine zA_gf3 rfl rfl e23 c24 ?_
        refine zA_ldn rfl rfl rfl ?_
        obtain ⟨p36, i37, j38, v43, e39, c40, c41, e42, e44, H⟩ := zrb_e H
        refine zA_bal rfl rfl e39 c40 c41 e42 e44 ?_
        rcases zite_e H with ⟨c45, H⟩ | ⟨c45, H⟩
        · refine zA_brF' (c := v43 = 0) rfl rfl rfl c45 ?_
          refine zA_aldn rfl rfl rfl ?_
          refine zA_gf3 rfl rfl e23 c24 ?_
          refine zA_ld rfl rfl rfl ?_
          obtain ⟨p46, i47, j48, v53, e49, c50, c51, e52, e54, H⟩ := zri_e H
          refine zA_ial rfl rfl e49 c50 c51 e52 e54 ?_
          refine zA_push rfl rfl zkk23 ?_
          rcases zite_e H with ⟨c55, H⟩ | ⟨c55, H⟩
          · refine zA_brT (c := v53 = (2 : Int32)) rfl rfl rfl c55 ?_
            refine zA_push rfl rfl zkk5 ?_
            refine zA_go rfl rfl ?_
            exact zA_tr (L := [some (zrv x0), some (zI x1), some (zI x2), some (zI x3), some (zI x4), some (zI x5), none]) rfl rfl (zmS164_38 ih _ _ _ _ _ _ _ _ _ _ H)
          · refine zA_brF (c := v53 = (2 : Int32)) rfl rfl rfl c55 ?_
            refine zA_aldn rfl rfl rfl ?_
            refine zA_gf3 rfl rfl e23 c24 ?_
            refine zA_ldn rfl rfl rfl ?_
            obtain ⟨p56, i57, j58, v63, e59, c60, c61, e62, e64, H⟩ := zrb_e H
            refine zA_bal rfl rfl e59 c60 c61 e62 e64 ?_
            rcases zite_e H with ⟨c65, H⟩ | ⟨c65, H⟩
            · refine zA_brT (c := v63 = 0) rfl rfl rfl c65 ?_
              refine zA_push rfl rfl zkk7 ?_
              exact zA_tr (L := [some (zrv x0), some (zI x1), some (zI x2), some (zI x3), some (zI x4), some (zI x5), none]) rfl rfl (zmS164_38 ih _ _ _ _ _ _ _ _ _ _ H)
            · refine zA_brF (c := v63 = 0) rfl rfl rfl c65 ?_
              refine zA_push rfl rfl zkk5 ?_
              refine zA_go rfl rfl ?_
              exact zA_tr (L := [some (zrv x0), some (zI x1), some (zI x2), some (zI x3), some (zI x4), some (zI x5), none]) rfl rfl (zmS164_38 ih _ _ _ _ _ _ _ _ _ _ H)
        · refine zA_brT' (c := v43 = 0) rfl rfl rfl c45 ?_
          refine zA_push rfl rfl zkk7 ?_
          exact zA_tr (L := [some (zrv x0), some (zI x1), some (zI x2), some (zI x3), some (zI x4), some (zI x5), none]) rfl rfl (zmS164_38 ih _ _ _ _ _ _ _ _ _ _ H)
def zm164_67 (x0 : zq) (x1 : Int32) (x4 : Int32) (h : zH) : zRs Int32 :=
  if x4 = 0 then
    some (.inl (0 : Int32), h)
  else
    zob 12 x0 fun p22 i23 =>
    zrb (zr h p22 i23 38) x1 h fun v33 =>
    if v33 = 0 then
      some (.inl (1 : Int32), h)
    else
      some (.inl (0 : Int32), h)
theorem zmS164_67 : ∀ (x0 : zq) (x1 : Int32) (x4 : Int32) (h : zH) (r : Int32 ⊕ Nat) (h' : zH), zm164_67 x0 x1 x4 h = some (r, h') → zAt 164 67 [some (zrv x0), some (zI x1), none, none, some (zI x4), none, none] [] h (zoI r) h' := by
  intro x0 x1 x4 h r h' H
  unfold zm164_67 at H
  refine zA_ld rfl rfl rfl ?_
  rcases zite_e H with ⟨c21, H⟩ | ⟨c21, H⟩
  · refine zA_brT (c := x4 = 0) rfl rfl rfl c21 ?_
    refine zA_tr (L := [none, none, none, none, none, none, none]) rfl rfl ?_
    refine zA_push rfl rfl zkk7 ?_
    cases H
    exact zA_ret rfl (zret_Z (by decide))
  · refine zA_brF (c := x4 = 0) rfl rfl rfl c21 ?_
    refine zA_aldn rfl rfl rfl ?_
    obtain ⟨p22, i23, e24, c25, H⟩ := zob_e H
    refine zA_gf3 rfl rfl e24 c25 ?_
    refine zA_ldn rfl rfl rfl ?_
    obtain ⟨p26, i27, j28, v33, e29, c30, c31, e32, e34, H⟩ := zrb_e H
    refine zA_bal rfl rfl e29 c30 c31 e32 e34 ?_
    rcases zite_e H with ⟨c35, H⟩ | ⟨c35, H⟩
    · refine zA_brF' (c := v33 = 0) rfl rfl rfl c35 ?_
      refine zA_push rfl rfl zkk5 ?_
      refine zA_go rfl rfl ?_
      refine zA_tr (L := [none, none, none, none, none, none, none]) rfl rfl ?_
      cases H
      exact zA_ret rfl (zret_Z (by decide))
    · refine zA_brT' (c := v33 = 0) rfl rfl rfl c35 ?_
      refine zA_tr (L := [none, none, none, none, none, none, none]) rfl rfl ?_
      refine zA_push rfl rfl zkk7 ?_
      cases H
      exact zA_ret rfl (zret_Z (by decide))
-- 164: ReleaseHouseModel.isFrozen(II)Z
def zm164 (x0 : zq) (x1 : Int32) (x2 : Int32) (h : zH) : zRs Int32 :=
  zob 12 x0 fun p21 i22 =>
  zri (zr h p21 i22 31) x1 h fun v32 =>
  zm164_9 (zm164_67) zN0 x0 x1 x2 v32 (0 : Int32) (0 : Int32) h
theorem zmS164 {x0 : zq} {x1 : Int32} {x2 : Int32} {h : zH} {r : Int32 ⊕ Nat} {h' : zH} (H : zm164 x0 x1 x2 h = some (r, h')) : zAt 164 0 [some (zrv x0), some (zI x1), some (zI x2), none, none, none, none] [] h (zoI r) h' := by
  unfold zm164 at H
  refine zA_aldn rfl rfl rfl ?_
  obtain ⟨p21, i22, e23, c24, H⟩ := zob_e H
  refine zA_gf3 rfl rfl e23 c24 ?_
  refine zA_ldn rfl rfl rfl ?_
  obtain ⟨p25, i26, j27, v32, e28, c29, c30, e31, e33, H⟩ := zri_e H
  refine zA_ial rfl rfl e28 c29 c30 e31 e33 ?_
  refine zA_istn2 rfl rfl rfl (zset1 (L' := [some (zrv x0), some (zI x1), some (zI x2), some (zI v32), none, none, none]) rfl rfl (zpcV rfl rfl)) ?_
  refine zA_push rfl rfl zkk7 ?_
  refine zA_ist2 rfl rfl rfl (zset1 (L' := [some (zrv x0), some (zI x1), some (zI x2), some (zI v32), some (zI (0 : Int32)), none, none]) rfl rfl (zpcV rfl rfl)) ?_
  refine zA_push rfl rfl zkk7 ?_
  refine zA_ist2 rfl rfl rfl (zset1 (L' := [some (zrv x0), some (zI x1), some (zI x2), some (zI v32), some (zI (0 : Int32)), some (zI (0 : Int32)), none]) rfl rfl (zpcV rfl rfl)) ?_
  exact zA_tr (L := [some (zrv x0), some (zI x1), some (zI x2), some (zI v32), some (zI (0 : Int32)), some (zI (0 : Int32)), none]) rfl rfl (zmS164_9 (zmS164_67) zN0 _ _ _ _ _ _ _ _ _ H)
theorem zmE164 (x0 : zq) (x1 : Int32) (x2 : Int32) : zpad (zPr.2.1 164).1 (zil [zrv x0, zI x1, zI x2]) = [some (zrv x0), some (zI x1), some (zI x2), none, none, none, none] := by
  simp only [zil_A, zil_I, zil_F, zil_D, zil_N]
  rfl
-- 166: ReleaseHouseModel.takes(I)I
def zm166 (x0 : Int32) (h : zH) : zRs Int32 :=
  if x0 ≤ (50 : Int32) then
    some (.inl (1 : Int32), h)
  else
    some (.inl (2 : Int32), h)
theorem zmS166 {x0 : Int32} {h : zH} {r : Int32 ⊕ Nat} {h' : zH} (H : zm166 x0 h = some (r, h')) : zAt 166 0 [some (zI x0)] [] h (zoI r) h' := by
  unfold zm166 at H
  refine zA_ldn rfl rfl rfl ?_
  refine zA_push rfl rfl zkk35 ?_
  rcases zite_e H with ⟨c21, H⟩ | ⟨c21, H⟩
  · refine zA_brT (c := x0 ≤ (50 : Int32)) rfl rfl rfl c21 ?_
    refine zA_tr (L := [none]) rfl rfl ?_
    refine zA_push rfl rfl zkk5 ?_
    cases H
    exact zA_ret rfl rfl
  · refine zA_brF (c := x0 ≤ (50 : Int32)) rfl rfl rfl c21 ?_
    refine zA_push rfl rfl zkk23 ?_
    refine zA_go rfl rfl ?_
    refine zA_tr (L := [none]) rfl rfl ?_
    cases H
    exact zA_ret rfl rfl
theorem zmE166 (x0 : Int32) : zpad (zPr.2.1 166).1 (zil [zI x0]) = [some (zI x0)] := by
  simp only [zil_A, zil_I, zil_F, zil_D, zil_N]
  rfl
def zm167_36 (k4 : zq → Int32 → Int32 → Int32 → zH → zRs Int32) (x0 : zq) (x1 : Int32) (x3 : Int32) (s0 : Int32) (s1 : Int32) (s2 : Int32) (h : zH) : zRs Int32 :=
  zlet (s0 + (s1 + s2)) fun x21 =>
  zlet (x3 + (1 : Int32)) fun x23 =>
  k4 x0 x1 x21 x23 h
theorem zmS167_36 {k4 : zq → Int32 → Int32 → Int32 → zH → zRs Int32} (hk4 : ∀ (x0 : zq) (x1 : Int32) (x2 : Int32) (x3 : Int32) (h : zH) (r : Int32 ⊕ Nat) (h' : zH), k4 x0 x1 x2 x3 h = some (r, h') → zAt 167 4 [some (zrv x0), some (zI x1), some (zI x2), some (zI x3), none] [] h (zoI r) h') : ∀ (x0 : zq) (x1 : Int32) (x3 : Int32) (s0 : Int32) (s1 : Int32) (s2 : Int32) (h : zH) (r : Int32 ⊕ Nat) (h' : zH), zm167_36 k4 x0 x1 x3 s0 s1 s2 h = some (r, h') → zAt 167 36 [some (zrv x0), some (zI x1), none, some (zI x3), none] [zI s2, zI s1, zI s0] h (zoI r) h' := by
  intro x0 x1 x3 s0 s1 s2 h r h' H
  unfold zm167_36 at H
  refine zA_st (st' := [zI (s1 + s2), zI s0]) rfl rfl rfl rfl ?_
  refine zA_st (st' := [zI (s0 + (s1 + s2))]) rfl rfl rfl rfl ?_
  obtain ⟨x21, e22, H⟩ := zlet_e H
  refine zA_istn2 rfl rfl e22 (zset1 (L' := [some (zrv x0), some (zI x1), some (zI x21), some (zI x3), none]) rfl rfl (zpcV rfl rfl)) ?_
  obtain ⟨x23, e24, H⟩ := zlet_e H
  refine zA_inc rfl rfl rfl (e24.trans (congrArg (_ + ·) zkk8)) (zset1 (L' := [some (zrv x0), some (zI x1), some (zI x21), some (zI x23), none]) rfl rfl (zpcV rfl rfl)) ?_
  refine zA_go rfl rfl ?_
  exact zA_tr (L := [some (zrv x0), some (zI x1), some (zI x21), some (zI x23), none]) rfl rfl (hk4 _ _ _ _ _ _ _ H)
def zm167_23 (k4 : zq → Int32 → Int32 → Int32 → zH → zRs Int32) (x0 : zq) (x1 : Int32) (x3 : Int32) (x4 : Int32) (s0 : Int32) (s1 : Int32) (h : zH) : zRs Int32 :=
  zob 12 x0 fun p21 i22 =>
  zri (zr h p21 i22 13) x4 h fun v32 =>
  if v32 = (-1 : Int32) then
    zm167_36 k4 x0 x1 x3 s0 s1 (0 : Int32) h
  else
    zri (zr h p21 i22 14) x4 h fun v42 =>
    zb (zm166 v42 h) fun x45 h44 =>
    zm167_36 k4 x0 x1 x3 s0 s1 x45 h44
theorem zmS167_23 {k4 : zq → Int32 → Int32 → Int32 → zH → zRs Int32} (hk4 : ∀ (x0 : zq) (x1 : Int32) (x2 : Int32) (x3 : Int32) (h : zH) (r : Int32 ⊕ Nat) (h' : zH), k4 x0 x1 x2 x3 h = some (r, h') → zAt 167 4 [some (zrv x0), some (zI x1), some (zI x2), some (zI x3), none] [] h (zoI r) h') : ∀ (x0 : zq) (x1 : Int32) (x3 : Int32) (x4 : Int32) (s0 : Int32) (s1 : Int32) (h : zH) (r : Int32 ⊕ Nat) (h' : zH), zm167_23 k4 x0 x1 x3 x4 s0 s1 h = some (r, h') → zAt 167 23 [some (zrv x0), some (zI x1), none, some (zI x3), some (zI x4)] [zI s1, zI s0] h (zoI r) h' := by
  intro x0 x1 x3 x4 s0 s1 h r h' H
  unfold zm167_23 at H
  refine zA_aldn rfl rfl rfl ?_
  obtain ⟨p21, i22, e23, c24, H⟩ := zob_e H
  refine zA_gf3 rfl rfl e23 c24 ?_
  refine zA_ld rfl rfl rfl ?_
  obtain ⟨p25, i26, j27, v32, e28, c29, c30, e31, e33, H⟩ := zri_e H
  refine zA_ial rfl rfl e28 c29 c30 e31 e33 ?_
  refine zA_push rfl rfl zkk6 ?_
  rcases zite_e H with ⟨c34, H⟩ | ⟨c34, H⟩
  · refine zA_brF' (c := v32 = (-1 : Int32)) rfl rfl rfl c34 ?_
    refine zA_push rfl rfl zkk7 ?_
    refine zA_go rfl rfl ?_
    exact zA_tr (L := [some (zrv x0), some (zI x1), none, some (zI x3), none]) rfl rfl (zmS167_36 hk4 _ _ _ _ _ _ _ _ _ H)
  · refine zA_brT' (c := v32 = (-1 : Int32)) rfl rfl rfl c34 ?_
    refine zA_aldn rfl rfl rfl ?_
    refine zA_gf3 rfl rfl e23 c24 ?_
    refine zA_ld rfl rfl rfl ?_
    obtain ⟨p35, i36, j37, v42, e38, c39, c40, e41, e43, H⟩ := zri_e H
    refine zA_ial rfl rfl e38 c39 c40 e41 e43 ?_
    rcases zb_e H with ⟨x45, h44, C, H⟩ | ⟨E, h44, C, H⟩
    · refine zA_callV (as := [zI v42]) (st' := [zI s1, zI s0]) rfl rfl rfl rfl rfl (zmE166 _) rfl (zmS166 C) ?_
      exact zA_tr (L := [some (zrv x0), some (zI x1), none, some (zI x3), none]) rfl rfl (zmS167_36 hk4 _ _ _ _ _ _ _ _ _ H)
    · cases H
      exact zA_callX (as := [zI v42]) (st' := [zI s1, zI s0]) rfl rfl rfl rfl (zmE166 _) rfl rfl rfl (zmS166 C)
def zm167_4 : Nat → zq → Int32 → Int32 → Int32 → zH → zRs Int32
  | 0, _, _, _, _, _ => none
  | n + 1, x0, x1, x2, x3, h =>
    if (4 : Int32) ≤ x3 then
      some (.inl x2, h)
    else
      zlet (((3 : Int32) * x3) + x1) fun x22 =>
      zob 12 x0 fun p24 i25 =>
      zri (zr h p24 i25 12) x22 h fun v35 =>
      if v35 = (-1 : Int32) then
        zm167_23 (zm167_4 n) x0 x1 x3 x22 x2 (0 : Int32) h
      else
        zm167_23 (zm167_4 n) x0 x1 x3 x22 x2 (2 : Int32) h
theorem zmS167_4 : ∀ (n : Nat) (x0 : zq) (x1 : Int32) (x2 : Int32) (x3 : Int32) (h : zH) (r : Int32 ⊕ Nat) (h' : zH), zm167_4 n x0 x1 x2 x3 h = some (r, h') → zAt 167 4 [some (zrv x0), some (zI x1), some (zI x2), some (zI x3), none] [] h (zoI r) h' := by
  intro n
  induction n with
  | zero => intro x0 x1 x2 x3 h r h' H; cases H
  | succ n ih =>
    intro x0 x1 x2 x3 h r h' H
    unfold zm167_4 at H
    refine zA_ldn rfl rfl rfl ?_
    refine zA_push rfl rfl zkk9 ?_
    rcases zite_e H with ⟨c21, H⟩ | ⟨c21, H⟩
    · refine zA_brT (c := (4 : Int32) ≤ x3) rfl rfl rfl c21 ?_
      refine zA_tr (L := [none, none, some (zI x2), none, none]) rfl rfl ?_
      refine zA_ldn rfl rfl rfl ?_
      cases H
      exact zA_ret rfl rfl
    · refine zA_brF (c := (4 : Int32) ≤ x3) rfl rfl rfl c21 ?_
      refine zA_push rfl rfl zkk3 ?_
      refine zA_ldn rfl rfl rfl ?_
      refine zA_st (st' := [zI ((3 : Int32) * x3)]) rfl rfl rfl rfl ?_
      refine zA_ldn rfl rfl rfl ?_
      refine zA_st (st' := [zI (((3 : Int32) * x3) + x1)]) rfl rfl rfl rfl ?_
      obtain ⟨x22, e23, H⟩ := zlet_e H
      refine zA_ist2 rfl rfl e23 (zset1 (L' := [some (zrv x0), some (zI x1), some (zI x2), some (zI x3), some (zI x22)]) rfl rfl (zpcV rfl rfl)) ?_
      refine zA_ldn rfl rfl rfl ?_
      refine zA_aldn rfl rfl rfl ?_
      obtain ⟨p24, i25, e26, c27, H⟩ := zob_e H
      refine zA_gf3 rfl rfl e26 c27 ?_
      refine zA_ld rfl rfl rfl ?_
      obtain ⟨p28, i29, j30, v35, e31, c32, c33, e34, e36, H⟩ := zri_e H
      refine zA_ial rfl rfl e31 c32 c33 e34 e36 ?_
      refine zA_push rfl rfl zkk6 ?_
      rcases zite_e H with ⟨c37, H⟩ | ⟨c37, H⟩
      · refine zA_brF' (c := v35 = (-1 : Int32)) rfl rfl rfl c37 ?_
        refine zA_push rfl rfl zkk7 ?_
        refine zA_go rfl rfl ?_
        exact zA_tr (L := [some (zrv x0), some (zI x1), none, some (zI x3), some (zI x22)]) rfl rfl (zmS167_23 ih _ _ _ _ _ _ _ _ _ H)
      · refine zA_brT' (c := v35 = (-1 : Int32)) rfl rfl rfl c37 ?_
        refine zA_tr (L := [some (zrv x0), some (zI x1), none, some (zI x3), some (zI x22)]) rfl rfl ?_
        refine zA_push rfl rfl zkk23 ?_
        exact zA_tr (L := [some (zrv x0), some (zI x1), none, some (zI x3), some (zI x22)]) rfl rfl (zmS167_23 ih _ _ _ _ _ _ _ _ _ H)
-- 167: ReleaseHouseModel.takenIn(I)I
def zm167 (x0 : zq) (x1 : Int32) (h : zH) : zRs Int32 :=
  zm167_4 zN0 x0 x1 (0 : Int32) (0 : Int32) h
theorem zmS167 {x0 : zq} {x1 : Int32} {h : zH} {r : Int32 ⊕ Nat} {h' : zH} (H : zm167 x0 x1 h = some (r, h')) : zAt 167 0 [some (zrv x0), some (zI x1), none, none, none] [] h (zoI r) h' := by
  unfold zm167 at H
  refine zA_push rfl rfl zkk7 ?_
  refine zA_istn2 rfl rfl rfl (zset1 (L' := [some (zrv x0), some (zI x1), some (zI (0 : Int32)), none, none]) rfl rfl (zpcV rfl rfl)) ?_
  refine zA_push rfl rfl zkk7 ?_
  refine zA_istn2 rfl rfl rfl (zset1 (L' := [some (zrv x0), some (zI x1), some (zI (0 : Int32)), some (zI (0 : Int32)), none]) rfl rfl (zpcV rfl rfl)) ?_
  exact zA_tr (L := [some (zrv x0), some (zI x1), some (zI (0 : Int32)), some (zI (0 : Int32)), none]) rfl rfl (zmS167_4 zN0 _ _ _ _ _ _ _ H)
theorem zmE167 (x0 : zq) (x1 : Int32) : zpad (zPr.2.1 167).1 (zil [zrv x0, zI x1]) = [some (zrv x0), some (zI x1), none, none, none] := by
  simp only [zil_A, zil_I, zil_F, zil_D, zil_N]
  rfl
def zm165_23 (k7 : zq → Int32 → Int32 → Int32 → zH → zRs Int32) (x0 : zq) (x1 : Int32) (x3 : Int32) (s0 : Int32) (s1 : Int32) (h : zH) : zRs Int32 :=
  zlet (s0 + s1) fun x21 =>
  zlet (x3 + (1 : Int32)) fun x23 =>
  k7 x0 x1 x21 x23 h
theorem zmS165_23 {k7 : zq → Int32 → Int32 → Int32 → zH → zRs Int32} (hk7 : ∀ (x0 : zq) (x1 : Int32) (x2 : Int32) (x3 : Int32) (h : zH) (r : Int32 ⊕ Nat) (h' : zH), k7 x0 x1 x2 x3 h = some (r, h') → zAt 165 7 [some (zrv x0), some (zI x1), some (zI x2), some (zI x3)] [] h (zoI r) h') : ∀ (x0 : zq) (x1 : Int32) (x3 : Int32) (s0 : Int32) (s1 : Int32) (h : zH) (r : Int32 ⊕ Nat) (h' : zH), zm165_23 k7 x0 x1 x3 s0 s1 h = some (r, h') → zAt 165 23 [some (zrv x0), some (zI x1), none, some (zI x3)] [zI s1, zI s0] h (zoI r) h' := by
  intro x0 x1 x3 s0 s1 h r h' H
  unfold zm165_23 at H
  refine zA_st (st' := [zI (s0 + s1)]) rfl rfl rfl rfl ?_
  obtain ⟨x21, e22, H⟩ := zlet_e H
  refine zA_istn2 rfl rfl e22 (zset1 (L' := [some (zrv x0), some (zI x1), some (zI x21), some (zI x3)]) rfl rfl (zpcV rfl rfl)) ?_
  obtain ⟨x23, e24, H⟩ := zlet_e H
  refine zA_inc rfl rfl rfl (e24.trans (congrArg (_ + ·) zkk8)) (zset1 (L' := [some (zrv x0), some (zI x1), some (zI x21), some (zI x23)]) rfl rfl (zpcV rfl rfl)) ?_
  refine zA_go rfl rfl ?_
  exact zA_tr (L := [some (zrv x0), some (zI x1), some (zI x21), some (zI x23)]) rfl rfl (hk7 _ _ _ _ _ _ _ H)
def zm165_7 : Nat → zq → Int32 → Int32 → Int32 → zH → zRs Int32
  | 0, _, _, _, _, _ => none
  | n + 1, x0, x1, x2, x3, h =>
    if (3 : Int32) ≤ x3 then
      some (.inl x2, h)
    else
      zob 12 x0 fun p22 i23 =>
      zrb (zr h p22 i23 56) (((3 : Int32) * x1) + x3) h fun v33 =>
      if v33 = 0 then
        zm165_23 (zm165_7 n) x0 x1 x3 x2 (4 : Int32) h
      else
        zm165_23 (zm165_7 n) x0 x1 x3 x2 (0 : Int32) h
theorem zmS165_7 : ∀ (n : Nat) (x0 : zq) (x1 : Int32) (x2 : Int32) (x3 : Int32) (h : zH) (r : Int32 ⊕ Nat) (h' : zH), zm165_7 n x0 x1 x2 x3 h = some (r, h') → zAt 165 7 [some (zrv x0), some (zI x1), some (zI x2), some (zI x3)] [] h (zoI r) h' := by
  intro n
  induction n with
  | zero => intro x0 x1 x2 x3 h r h' H; cases H
  | succ n ih =>
    intro x0 x1 x2 x3 h r h' H
    unfold zm165_7 at H
    refine zA_ldn rfl rfl rfl ?_
    refine zA_push rfl rfl zkk3 ?_
    rcases zite_e H with ⟨c21, H⟩ | ⟨c21, H⟩
    · refine zA_brT (c := (3 : Int32) ≤ x3) rfl rfl rfl c21 ?_
      refine zA_tr (L := [none, none, some (zI x2), none]) rfl rfl ?_
      refine zA_ldn rfl rfl rfl ?_
      cases H
      exact zA_ret rfl rfl
    · refine zA_brF (c := (3 : Int32) ≤ x3) rfl rfl rfl c21 ?_
      refine zA_ldn rfl rfl rfl ?_
      refine zA_aldn rfl rfl rfl ?_
      obtain ⟨p22, i23, e24, c25, H⟩ := zob_e H
      refine zA_gf3 rfl rfl e24 c25 ?_
      refine zA_push rfl rfl zkk3 ?_
      refine zA_ldn rfl rfl rfl ?_
      refine zA_st (st' := [zI ((3 : Int32) * x1), zrv (zr h p22 i23 56), zI x2]) rfl rfl rfl rfl ?_
      refine zA_ldn rfl rfl rfl ?_
      refine zA_st (st' := [zI (((3 : Int32) * x1) + x3), zrv (zr h p22 i23 56), zI x2]) rfl rfl rfl rfl ?_
      obtain ⟨p26, i27, j28, v33, e29, c30, c31, e32, e34, H⟩ := zrb_e H
      refine zA_bal rfl rfl e29 c30 c31 e32 e34 ?_
      rcases zite_e H with ⟨c35, H⟩ | ⟨c35, H⟩
      · refine zA_brT (c := v33 = 0) rfl rfl rfl c35 ?_
        refine zA_tr (L := [some (zrv x0), some (zI x1), none, some (zI x3)]) rfl rfl ?_
        refine zA_push rfl rfl zkk9 ?_
        exact zA_tr (L := [some (zrv x0), some (zI x1), none, some (zI x3)]) rfl rfl (zmS165_23 ih _ _ _ _ _ _ _ _ H)
      · refine zA_brF (c := v33 = 0) rfl rfl rfl c35 ?_
        refine zA_push rfl rfl zkk7 ?_
        refine zA_go rfl rfl ?_
        exact zA_tr (L := [some (zrv x0), some (zI x1), none, some (zI x3)]) rfl rfl (zmS165_23 ih _ _ _ _ _ _ _ _ H)
-- 165: ReleaseHouseModel.places(I)I
def zm165 (x0 : zq) (x1 : Int32) (h : zH) : zRs Int32 :=
  zob 12 x0 fun p21 i22 =>
  zri (zr h p21 i22 57) x1 h fun v32 =>
  zm165_7 zN0 x0 x1 v32 (0 : Int32) h
theorem zmS165 {x0 : zq} {x1 : Int32} {h : zH} {r : Int32 ⊕ Nat} {h' : zH} (H : zm165 x0 x1 h = some (r, h')) : zAt 165 0 [some (zrv x0), some (zI x1), none, none] [] h (zoI r) h' := by
  unfold zm165 at H
  refine zA_aldn rfl rfl rfl ?_
  obtain ⟨p21, i22, e23, c24, H⟩ := zob_e H
  refine zA_gf3 rfl rfl e23 c24 ?_
  refine zA_ldn rfl rfl rfl ?_
  obtain ⟨p25, i26, j27, v32, e28, c29, c30, e31, e33, H⟩ := zri_e H
  refine zA_ial rfl rfl e28 c29 c30 e31 e33 ?_
  refine zA_istn2 rfl rfl rfl (zset1 (L' := [some (zrv x0), some (zI x1), some (zI v32), none]) rfl rfl (zpcV rfl rfl)) ?_
  refine zA_push rfl rfl zkk7 ?_
  refine zA_istn2 rfl rfl rfl (zset1 (L' := [some (zrv x0), some (zI x1), some (zI v32), some (zI (0 : Int32))]) rfl rfl (zpcV rfl rfl)) ?_
  exact zA_tr (L := [some (zrv x0), some (zI x1), some (zI v32), some (zI (0 : Int32))]) rfl rfl (zmS165_7 zN0 _ _ _ _ _ _ _ H)
theorem zmE165 (x0 : zq) (x1 : Int32) : zpad (zPr.2.1 165).1 (zil [zrv x0, zI x1]) = [some (zrv x0), some (zI x1), none, none] := by
  simp only [zil_A, zil_I, zil_F, zil_D, zil_N]
  rfl
def zm168_129 (k44 : zq → Int32 → Int32 → Int32 → Int32 → Int32 → Int32 → Int32 → Int32 → Int32 → Int32 → zH → zRs Int32) (x0 : zq) (x2 : Int32) (x3 : Int32) (x4 : Int32) (x6 : Int32) (x7 : Int32) (x8 : Int32) (x9 : Int32) (x10 : Int32) (x11 : Int32) (x12 : Int32) (h : zH) : zRs Int32 :=
  zlet (x12 + (1 : Int32)) fun x21 =>
  k44 x0 x2 x3 x4 x6 x7 x8 x9 x10 x11 x21 h
theorem zmS168_129 {k44 : zq → Int32 → Int32 → Int32 → Int32 → Int32 → Int32 → Int32 → Int32 → Int32 → Int32 → zH → zRs Int32} (hk44 : ∀ (x0 : zq) (x2 : Int32) (x3 : Int32) (x4 : Int32) (x6 : Int32) (x7 : Int32) (x8 : Int32) (x9 : Int32) (x10 : Int32) (x11 : Int32) (x12 : Int32) (h : zH) (r : Int32 ⊕ Nat) (h' : zH), k44 x0 x2 x3 x4 x6 x7 x8 x9 x10 x11 x12 h = some (r, h') → zAt 168 44 [some (zrv x0), none, some (zI x2), some (zI x3), some (zI x4), none, some (zI x6), some (zI x7), some (zI x8), some (zI x9), some (zI x10), some (zI x11), some (zI x12), none, none, none] [] h (zoI r) h') : ∀ (x0 : zq) (x2 : Int32) (x3 : Int32) (x4 : Int32) (x6 : Int32) (x7 : Int32) (x8 : Int32) (x9 : Int32) (x10 : Int32) (x11 : Int32) (x12 : Int32) (h : zH) (r : Int32 ⊕ Nat) (h' : zH), zm168_129 k44 x0 x2 x3 x4 x6 x7 x8 x9 x10 x11 x12 h = some (r, h') → zAt 168 129 [some (zrv x0), none, some (zI x2), some (zI x3), some (zI x4), none, some (zI x6), some (zI x7), some (zI x8), some (zI x9), some (zI x10), some (zI x11), some (zI x12), none, none, none] [] h (zoI r) h' := by
  intro x0 x2 x3 x4 x6 x7 x8 x9 x10 x11 x12 h r h' H
  unfold zm168_129 at H
  obtain ⟨x21, e22, H⟩ := zlet_e H
  refine zA_inc rfl rfl rfl (e22.trans (congrArg (_ + ·) zkk8)) (zset1 (L' := [some (zrv x0), none, some (zI x2), some (zI x3), some (zI x4), none, some (zI x6), some (zI x7), some (zI x8), some (zI x9), some (zI x10), some (zI x11), some (zI x21), none, none, none]) rfl rfl (zpcV rfl rfl)) ?_
  refine zA_go rfl rfl ?_
  exact zA_tr (L := [some (zrv x0), none, some (zI x2), some (zI x3), some (zI x4), none, some (zI x6), some (zI x7), some (zI x8), some (zI x9), some (zI x10), some (zI x11), some (zI x21), none, none, none]) rfl rfl (hk44 _ _ _ _ _ _ _ _ _ _ _ _ _ _ H)
def zm168_126 (k44 : zq → Int32 → Int32 → Int32 → Int32 → Int32 → Int32 → Int32 → Int32 → Int32 → Int32 → zH → zRs Int32) (x0 : zq) (x2 : Int32) (x3 : Int32) (x4 : Int32) (x6 : Int32) (x7 : Int32) (x8 : Int32) (x9 : Int32) (x11 : Int32) (x12 : Int32) (s0 : Int32) (s1 : Int32) (s2 : Int32) (h : zH) : zRs Int32 :=
  zlet (s0 + (s1 + s2)) fun x21 =>
  zm168_129 k44 x0 x2 x3 x4 x6 x7 x8 x9 x21 x11 x12 h
theorem zmS168_126 {k44 : zq → Int32 → Int32 → Int32 → Int32 → Int32 → Int32 → Int32 → Int32 → Int32 → Int32 → zH → zRs Int32} (hk44 : ∀ (x0 : zq) (x2 : Int32) (x3 : Int32) (x4 : Int32) (x6 : Int32) (x7 : Int32) (x8 : Int32) (x9 : Int32) (x10 : Int32) (x11 : Int32) (x12 : Int32) (h : zH) (r : Int32 ⊕ Nat) (h' : zH), k44 x0 x2 x3 x4 x6 x7 x8 x9 x10 x11 x12 h = some (r, h') → zAt 168 44 [some (zrv x0), none, some (zI x2), some (zI x3), some (zI x4), none, some (zI x6), some (zI x7), some (zI x8), some (zI x9), some (zI x10), some (zI x11), some (zI x12), none, none, none] [] h (zoI r) h') : ∀ (x0 : zq) (x2 : Int32) (x3 : Int32) (x4 : Int32) (x6 : Int32) (x7 : Int32) (x8 : Int32) (x9 : Int32) (x11 : Int32) (x12 : Int32) (s0 : Int32) (s1 : Int32) (s2 : Int32) (h : zH) (r : Int32 ⊕ Nat) (h' : zH), zm168_126 k44 x0 x2 x3 x4 x6 x7 x8 x9 x11 x12 s0 s1 s2 h = some (r, h') → zAt 168 126 [some (zrv x0), none, some (zI x2), some (zI x3), some (zI x4), none, some (zI x6), some (zI x7), some (zI x8), some (zI x9), none, some (zI x11), some (zI x12), none, none, none] [zI s2, zI s1, zI s0] h (zoI r) h' := by
  intro x0 x2 x3 x4 x6 x7 x8 x9 x11 x12 s0 s1 s2 h r h' H
  unfold zm168_126 at H
  refine zA_st (st' := [zI (s1 + s2), zI s0]) rfl rfl rfl rfl ?_
  refine zA_st (st' := [zI (s0 + (s1 + s2))]) rfl rfl rfl rfl ?_
  obtain ⟨x21, e22, H⟩ := zlet_e H
  refine zA_ist2 rfl rfl e22 (zset1 (L' := [some (zrv x0), none, some (zI x2), some (zI x3), some (zI x4), none, some (zI x6), some (zI x7), some (zI x8), some (zI x9), some (zI x21), some (zI x11), some (zI x12), none, none, none]) rfl rfl (zpcV rfl rfl)) ?_
  exact zA_tr (L := [some (zrv x0), none, some (zI x2), some (zI x3), some (zI x4), none, some (zI x6), some (zI x7), some (zI x8), some (zI x9), some (zI x21), some (zI x11), some (zI x12), none, none, none]) rfl rfl (zmS168_129 hk44 _ _ _ _ _ _ _ _ _ _ _ _ _ _ H)
def zm168_114 (k44 : zq → Int32 → Int32 → Int32 → Int32 → Int32 → Int32 → Int32 → Int32 → Int32 → Int32 → zH → zRs Int32) (x0 : zq) (x2 : Int32) (x3 : Int32) (x4 : Int32) (x6 : Int32) (x7 : Int32) (x8 : Int32) (x9 : Int32) (x11 : Int32) (x12 : Int32) (x13 : Int32) (s0 : Int32) (s1 : Int32) (s2 : Int32) (h : zH) : zRs Int32 :=
  if x3 = 0 then
    zob 12 x0 fun p22 i23 =>
    zri (zr h p22 i23 12) x13 h fun v33 =>
    if v33 = (-1 : Int32) then
      zm168_126 k44 x0 x2 x3 x4 x6 x7 x8 x9 x11 x12 s0 (s1 - s2) (2 : Int32) h
    else
      zm168_126 k44 x0 x2 x3 x4 x6 x7 x8 x9 x11 x12 s0 (s1 - s2) (0 : Int32) h
  else
    zm168_126 k44 x0 x2 x3 x4 x6 x7 x8 x9 x11 x12 s0 (s1 - s2) (0 : Int32) h
theorem zmS168_114 {k44 : zq → Int32 → Int32 → Int32 → Int32 → Int32 → Int32 → Int32 → Int32 → Int32 → Int32 → zH → zRs Int32} (hk44 : ∀ (x0 : zq) (x2 : Int32) (x3 : Int32) (x4 : Int32) (x6 : Int32) (x7 : Int32) (x8 : Int32) (x9 : Int32) (x10 : Int32) (x11 : Int32) (x12 : Int32) (h : zH) (r : Int32 ⊕ Nat) (h' : zH), k44 x0 x2 x3 x4 x6 x7 x8 x9 x10 x11 x12 h = some (r, h') → zAt 168 44 [some (zrv x0), none, some (zI x2), some (zI x3), some (zI x4), none, some (zI x6), some (zI x7), some (zI x8), some (zI x9), some (zI x10), some (zI x11), some (zI x12), none, none, none] [] h (zoI r) h') : ∀ (x0 : zq) (x2 : Int32) (x3 : Int32) (x4 : Int32) (x6 : Int32) (x7 : Int32) (x8 : Int32) (x9 : Int32) (x11 : Int32) (x12 : Int32) (x13 : Int32) (s0 : Int32) (s1 : Int32) (s2 : Int32) (h : zH) (r : Int32 ⊕ Nat) (h' : zH), zm168_114 k44 x0 x2 x3 x4 x6 x7 x8 x9 x11 x12 x13 s0 s1 s2 h = some (r, h') → zAt 168 114 [some (zrv x0), none, some (zI x2), some (zI x3), some (zI x4), none, some (zI x6), some (zI x7), some (zI x8), some (zI x9), none, some (zI x11), some (zI x12), some (zI x13), none, none] [zI s2, zI s1, zI s0] h (zoI r) h' := by
  intro x0 x2 x3 x4 x6 x7 x8 x9 x11 x12 x13 s0 s1 s2 h r h' H
  unfold zm168_114 at H
  refine zA_st (st' := [zI (s1 - s2), zI s0]) rfl rfl rfl rfl ?_
  refine zA_ldn rfl rfl rfl ?_
  rcases zite_e H with ⟨c21, H⟩ | ⟨c21, H⟩
  · refine zA_brF' (c := x3 = 0) rfl rfl rfl c21 ?_
    refine zA_aldn rfl rfl rfl ?_
    obtain ⟨p22, i23, e24, c25, H⟩ := zob_e H
    refine zA_gf3 rfl rfl e24 c25 ?_
    refine zA_ld rfl rfl rfl ?_
    obtain ⟨p26, i27, j28, v33, e29, c30, c31, e32, e34, H⟩ := zri_e H
    refine zA_ial rfl rfl e29 c30 c31 e32 e34 ?_
    refine zA_push rfl rfl zkk6 ?_
    rcases zite_e H with ⟨c35, H⟩ | ⟨c35, H⟩
    · refine zA_brF' (c := v33 = (-1 : Int32)) rfl rfl rfl c35 ?_
      refine zA_push rfl rfl zkk23 ?_
      refine zA_go rfl rfl ?_
      exact zA_tr (L := [some (zrv x0), none, some (zI x2), some (zI x3), some (zI x4), none, some (zI x6), some (zI x7), some (zI x8), some (zI x9), none, some (zI x11), some (zI x12), none, none, none]) rfl rfl (zmS168_126 hk44 _ _ _ _ _ _ _ _ _ _ _ _ _ _ _ _ H)
    · refine zA_brT' (c := v33 = (-1 : Int32)) rfl rfl rfl c35 ?_
      refine zA_tr (L := [some (zrv x0), none, some (zI x2), some (zI x3), some (zI x4), none, some (zI x6), some (zI x7), some (zI x8), some (zI x9), none, some (zI x11), some (zI x12), none, none, none]) rfl rfl ?_
      refine zA_push rfl rfl zkk7 ?_
      exact zA_tr (L := [some (zrv x0), none, some (zI x2), some (zI x3), some (zI x4), none, some (zI x6), some (zI x7), some (zI x8), some (zI x9), none, some (zI x11), some (zI x12), none, none, none]) rfl rfl (zmS168_126 hk44 _ _ _ _ _ _ _ _ _ _ _ _ _ _ _ _ H)
  · refine zA_brT' (c := x3 = 0) rfl rfl rfl c21 ?_
    refine zA_tr (L := [some (zrv x0), none, some (zI x2), some (zI x3), some (zI x4), none, some (zI x6), some (zI x7), some (zI x8), some (zI x9), none, some (zI x11), some (zI x12), none, none, none]) rfl rfl ?_
    refine zA_push rfl rfl zkk7 ?_
    exact zA_tr (L := [some (zrv x0), none, some (zI x2), some (zI x3), some (zI x4), none, some (zI x6), some (zI x7), some (zI x8), some (zI x9), none, some (zI x11), some (zI x12), none, none, none]) rfl rfl (zmS168_126 hk44 _ _ _ _ _ _ _ _ _ _ _ _ _ _ _ _ H)
def zm168_91 (k44 : zq → Int32 → Int32 → Int32 → Int32 → Int32 → Int32 → Int32 → Int32 → Int32 → Int32 → zH → zRs Int32) (x0 : zq) (x2 : Int32) (x3 : Int32) (x4 : Int32) (x6 : Int32) (x7 : Int32) (x8 : Int32) (x9 : Int32) (x10 : Int32) (x11 : Int32) (x12 : Int32) (x13 : Int32) (s0 : Int32) (h : zH) : zRs Int32 :=
  zlet (x11 + s0) fun x21 =>
  if x12 = x2 then
    zob 12 x0 fun p24 i25 =>
    zri (zr h p24 i25 13) x13 h fun v35 =>
    if v35 = (-1 : Int32) then
      zm168_114 k44 x0 x2 x3 x4 x6 x7 x8 x9 x21 x12 x13 x10 s0 (0 : Int32) h
    else
      zri (zr h p24 i25 14) x13 h fun v45 =>
      zb (zm166 v45 h) fun x48 h47 =>
      zm168_114 k44 x0 x2 x3 x4 x6 x7 x8 x9 x21 x12 x13 x10 s0 x48 h47
  else
    zm168_129 k44 x0 x2 x3 x4 x6 x7 x8 x9 x10 x21 x12 h
theorem zmS168_91 {k44 : zq → Int32 → Int32 → Int32 → Int32 → Int32 → Int32 → Int32 → Int32 → Int32 → Int32 → zH → zRs Int32} (hk44 : ∀ (x0 : zq) (x2 : Int32) (x3 : Int32) (x4 : Int32) (x6 : Int32) (x7 : Int32) (x8 : Int32) (x9 : Int32) (x10 : Int32) (x11 : Int32) (x12 : Int32) (h : zH) (r : Int32 ⊕ Nat) (h' : zH), k44 x0 x2 x3 x4 x6 x7 x8 x9 x10 x11 x12 h = some (r, h') → zAt 168 44 [some (zrv x0), none, some (zI x2), some (zI x3), some (zI x4), none, some (zI x6), some (zI x7), some (zI x8), some (zI x9), some (zI x10), some (zI x11), some (zI x12), none, none, none] [] h (zoI r) h') : ∀ (x0 : zq) (x2 : Int32) (x3 : Int32) (x4 : Int32) (x6 : Int32) (x7 : Int32) (x8 : Int32) (x9 : Int32) (x10 : Int32) (x11 : Int32) (x12 : Int32) (x13 : Int32) (s0 : Int32) (h : zH) (r : Int32 ⊕ Nat) (h' : zH), zm168_91 k44 x0 x2 x3 x4 x6 x7 x8 x9 x10 x11 x12 x13 s0 h = some (r, h') → zAt 168 91 [some (zrv x0), none, some (zI x2), some (zI x3), some (zI x4), none, some (zI x6), some (zI x7), some (zI x8), some (zI x9), some (zI x10), some (zI x11), some (zI x12), some (zI x13), none, none] [zI s0] h (zoI r) h' := by
  intro x0 x2 x3 x4 x6 x7 x8 x9 x10 x11 x12 x13 s0 h r h' H
  unfold zm168_91 at H
  refine zA_ist2 rfl rfl rfl (zset1 (L' := [some (zrv x0), none, some (zI x2), some (zI x3), some (zI x4), none, some (zI x6), some (zI x7), some (zI x8), some (zI x9), some (zI x10), some (zI x11), some (zI x12), some (zI x13), none, some (zI s0)]) rfl rfl (zpcN rfl)) ?_
  refine zA_ld rfl rfl rfl ?_
  refine zA_ld rfl rfl rfl ?_
  refine zA_st (st' := [zI (x11 + s0)]) rfl rfl rfl rfl ?_
  obtain ⟨x21, e22, H⟩ := zlet_e H
  refine zA_ist2 rfl rfl e22 (zset1 (L' := [some (zrv x0), none, some (zI x2), some (zI x3), some (zI x4), none, some (zI x6), some (zI x7), some (zI x8), some (zI x9), some (zI x10), some (zI x21), some (zI x12), some (zI x13), none, some (zI s0)]) rfl rfl (zpcV rfl rfl)) ?_
  refine zA_ld rfl rfl rfl ?_
  refine zA_ldn rfl rfl rfl ?_
  rcases zite_e H with ⟨c23, H⟩ | ⟨c23, H⟩
  · refine zA_brF' (c := x12 = x2) rfl rfl rfl c23 ?_
    refine zA_ld rfl rfl rfl ?_
    refine zA_ld rfl rfl rfl ?_
    refine zA_aldn rfl rfl rfl ?_
    obtain ⟨p24, i25, e26, c27, H⟩ := zob_e H
    refine zA_gf3 rfl rfl e26 c27 ?_
    refine zA_ld rfl rfl rfl ?_
    obtain ⟨p28, i29, j30, v35, e31, c32, c33, e34, e36, H⟩ := zri_e H
    refine zA_ial rfl rfl e31 c32 c33 e34 e36 ?_
    refine zA_push rfl rfl zkk6 ?_
    rcases zite_e H with ⟨c37, H⟩ | ⟨c37, H⟩
    · refine zA_brF' (c := v35 = (-1 : Int32)) rfl rfl rfl c37 ?_
      refine zA_push rfl rfl zkk7 ?_
      refine zA_go rfl rfl ?_
      exact zA_tr (L := [some (zrv x0), none, some (zI x2), some (zI x3), some (zI x4), none, some (zI x6), some (zI x7), some (zI x8), some (zI x9), none, some (zI x21), some (zI x12), some (zI x13), none, none]) rfl rfl (zmS168_114 hk44 _ _ _ _ _ _ _ _ _ _ _ _ _ _ _ _ _ H)
    · refine zA_brT' (c := v35 = (-1 : Int32)) rfl rfl rfl c37 ?_
      refine zA_tr (L := [some (zrv x0), none, some (zI x2), some (zI x3), some (zI x4), none, some (zI x6), some (zI x7), some (zI x8), some (zI x9), none, some (zI x21), some (zI x12), some (zI x13), none, none]) rfl rfl ?_
      refine zA_aldn rfl rfl rfl ?_
      refine zA_gf3 rfl rfl e26 c27 ?_
      refine zA_ld rfl rfl rfl ?_
      obtain ⟨p38, i39, j40, v45, e41, c42, c43, e44, e46, H⟩ := zri_e H
      refine zA_ial rfl rfl e41 c42 c43 e44 e46 ?_
      rcases zb_e H with ⟨x48, h47, C, H⟩ | ⟨E, h47, C, H⟩
      · refine zA_callV (as := [zI v45]) (st' := [zI s0, zI x10]) rfl rfl rfl rfl rfl (zmE166 _) rfl (zmS166 C) ?_
        exact zA_tr (L := [some (zrv x0), none, some (zI x2), some (zI x3), some (zI x4), none, some (zI x6), some (zI x7), some (zI x8), some (zI x9), none, some (zI x21), some (zI x12), some (zI x13), none, none]) rfl rfl (zmS168_114 hk44 _ _ _ _ _ _ _ _ _ _ _ _ _ _ _ _ _ H)
      · cases H
        exact zA_callX (as := [zI v45]) (st' := [zI s0, zI x10]) rfl rfl rfl rfl (zmE166 _) rfl rfl rfl (zmS166 C)
  · refine zA_brT' (c := x12 = x2) rfl rfl rfl c23 ?_
    exact zA_tr (L := [some (zrv x0), none, some (zI x2), some (zI x3), some (zI x4), none, some (zI x6), some (zI x7), some (zI x8), some (zI x9), some (zI x10), some (zI x21), some (zI x12), none, none, none]) rfl rfl (zmS168_129 hk44 _ _ _ _ _ _ _ _ _ _ _ _ _ _ H)
def zm168_82 (k44 : zq → Int32 → Int32 → Int32 → Int32 → Int32 → Int32 → Int32 → Int32 → Int32 → Int32 → zH → zRs Int32) (x0 : zq) (x2 : Int32) (x3 : Int32) (x4 : Int32) (x6 : Int32) (x7 : Int32) (x8 : Int32) (x9 : Int32) (x10 : Int32) (x11 : Int32) (x12 : Int32) (x13 : Int32) (x14 : Int32) (h : zH) : zRs Int32 :=
  if x14 = 0 then
    zob 12 x0 fun p22 i23 =>
    zri (zr h p22 i23 14) x13 h fun v33 =>
    zb (zm166 v33 h) fun x36 h35 =>
    zm168_91 k44 x0 x2 x3 x4 x6 x7 x8 x9 x10 x11 x12 x13 x36 h35
  else
    zm168_91 k44 x0 x2 x3 x4 x6 x7 x8 x9 x10 x11 x12 x13 (0 : Int32) h
theorem zmS168_82 {k44 : zq → Int32 → Int32 → Int32 → Int32 → Int32 → Int32 → Int32 → Int32 → Int32 → Int32 → zH → zRs Int32} (hk44 : ∀ (x0 : zq) (x2 : Int32) (x3 : Int32) (x4 : Int32) (x6 : Int32) (x7 : Int32) (x8 : Int32) (x9 : Int32) (x10 : Int32) (x11 : Int32) (x12 : Int32) (h : zH) (r : Int32 ⊕ Nat) (h' : zH), k44 x0 x2 x3 x4 x6 x7 x8 x9 x10 x11 x12 h = some (r, h') → zAt 168 44 [some (zrv x0), none, some (zI x2), some (zI x3), some (zI x4), none, some (zI x6), some (zI x7), some (zI x8), some (zI x9), some (zI x10), some (zI x11), some (zI x12), none, none, none] [] h (zoI r) h') : ∀ (x0 : zq) (x2 : Int32) (x3 : Int32) (x4 : Int32) (x6 : Int32) (x7 : Int32) (x8 : Int32) (x9 : Int32) (x10 : Int32) (x11 : Int32) (x12 : Int32) (x13 : Int32) (x14 : Int32) (h : zH) (r : Int32 ⊕ Nat) (h' : zH), zm168_82 k44 x0 x2 x3 x4 x6 x7 x8 x9 x10 x11 x12 x13 x14 h = some (r, h') → zAt 168 82 [some (zrv x0), none, some (zI x2), some (zI x3), some (zI x4), none, some (zI x6), some (zI x7), some (zI x8), some (zI x9), some (zI x10), some (zI x11), some (zI x12), some (zI x13), some (zI x14), none] [] h (zoI r) h' := by
  intro x0 x2 x3 x4 x6 x7 x8 x9 x10 x11 x12 x13 x14 h r h' H
  unfold zm168_82 at H
  refine zA_ld rfl rfl rfl ?_
  rcases zite_e H with ⟨c21, H⟩ | ⟨c21, H⟩
  · refine zA_brT (c := x14 = 0) rfl rfl rfl c21 ?_
    refine zA_tr (L := [some (zrv x0), none, some (zI x2), some (zI x3), some (zI x4), none, some (zI x6), some (zI x7), some (zI x8), some (zI x9), some (zI x10), some (zI x11), some (zI x12), some (zI x13), none, none]) rfl rfl ?_
    refine zA_aldn rfl rfl rfl ?_
    obtain ⟨p22, i23, e24, c25, H⟩ := zob_e H
    refine zA_gf3 rfl rfl e24 c25 ?_
    refine zA_ld rfl rfl rfl ?_
    obtain ⟨p26, i27, j28, v33, e29, c30, c31, e32, e34, H⟩ := zri_e H
    refine zA_ial rfl rfl e29 c30 c31 e32 e34 ?_
    rcases zb_e H with ⟨x36, h35, C, H⟩ | ⟨E, h35, C, H⟩
    · refine zA_callV (as := [zI v33]) (st' := []) rfl rfl rfl rfl rfl (zmE166 _) rfl (zmS166 C) ?_
      exact zA_tr (L := [some (zrv x0), none, some (zI x2), some (zI x3), some (zI x4), none, some (zI x6), some (zI x7), some (zI x8), some (zI x9), some (zI x10), some (zI x11), some (zI x12), some (zI x13), none, none]) rfl rfl (zmS168_91 hk44 _ _ _ _ _ _ _ _ _ _ _ _ _ _ _ _ H)
    · cases H
      exact zA_callX (as := [zI v33]) (st' := []) rfl rfl rfl rfl (zmE166 _) rfl rfl rfl (zmS166 C)
  · refine zA_brF (c := x14 = 0) rfl rfl rfl c21 ?_
    refine zA_push rfl rfl zkk7 ?_
    refine zA_go rfl rfl ?_
    exact zA_tr (L := [some (zrv x0), none, some (zI x2), some (zI x3), some (zI x4), none, some (zI x6), some (zI x7), some (zI x8), some (zI x9), some (zI x10), some (zI x11), some (zI x12), some (zI x13), none, none]) rfl rfl (zmS168_91 hk44 _ _ _ _ _ _ _ _ _ _ _ _ _ _ _ _ H)
def zm168_73 (k44 : zq → Int32 → Int32 → Int32 → Int32 → Int32 → Int32 → Int32 → Int32 → Int32 → Int32 → zH → zRs Int32) (x0 : zq) (x2 : Int32) (x3 : Int32) (x4 : Int32) (x6 : Int32) (x7 : Int32) (x8 : Int32) (x9 : Int32) (x10 : Int32) (x11 : Int32) (x12 : Int32) (x13 : Int32) (s0 : Int32) (h : zH) : zRs Int32 :=
  if x12 = x2 then
    if x3 = 0 then
      zm168_82 k44 x0 x2 x3 x4 x6 x7 x8 x9 x10 x11 x12 x13 s0 h
    else
      zb (zm166 x4 h) fun x24 h23 =>
      zm168_91 k44 x0 x2 x3 x4 x6 x7 x8 x9 x10 x11 x12 x13 x24 h23
  else
    zm168_82 k44 x0 x2 x3 x4 x6 x7 x8 x9 x10 x11 x12 x13 s0 h
theorem zmS168_73 {k44 : zq → Int32 → Int32 → Int32 → Int32 → Int32 → Int32 → Int32 → Int32 → Int32 → Int32 → zH → zRs Int32} (hk44 : ∀ (x0 : zq) (x2 : Int32) (x3 : Int32) (x4 : Int32) (x6 : Int32) (x7 : Int32) (x8 : Int32) (x9 : Int32) (x10 : Int32) (x11 : Int32) (x12 : Int32) (h : zH) (r : Int32 ⊕ Nat) (h' : zH), k44 x0 x2 x3 x4 x6 x7 x8 x9 x10 x11 x12 h = some (r, h') → zAt 168 44 [some (zrv x0), none, some (zI x2), some (zI x3), some (zI x4), none, some (zI x6), some (zI x7), some (zI x8), some (zI x9), some (zI x10), some (zI x11), some (zI x12), none, none, none] [] h (zoI r) h') : ∀ (x0 : zq) (x2 : Int32) (x3 : Int32) (x4 : Int32) (x6 : Int32) (x7 : Int32) (x8 : Int32) (x9 : Int32) (x10 : Int32) (x11 : Int32) (x12 : Int32) (x13 : Int32) (s0 : Int32) (h : zH) (r : Int32 ⊕ Nat) (h' : zH), zm168_73 k44 x0 x2 x3 x4 x6 x7 x8 x9 x10 x11 x12 x13 s0 h = some (r, h') → zAt 168 73 [some (zrv x0), none, some (zI x2), some (zI x3), some (zI x4), none, some (zI x6), some (zI x7), some (zI x8), some (zI x9), some (zI x10), some (zI x11), some (zI x12), some (zI x13), none, none] [zI s0] h (zoI r) h' := by
  intro x0 x2 x3 x4 x6 x7 x8 x9 x10 x11 x12 x13 s0 h r h' H
  unfold zm168_73 at H
  refine zA_ist2 rfl rfl rfl (zset1 (L' := [some (zrv x0), none, some (zI x2), some (zI x3), some (zI x4), none, some (zI x6), some (zI x7), some (zI x8), some (zI x9), some (zI x10), some (zI x11), some (zI x12), some (zI x13), some (zI s0), none]) rfl rfl (zpcV rfl rfl)) ?_
  refine zA_ld rfl rfl rfl ?_
  refine zA_ldn rfl rfl rfl ?_
  rcases zite_e H with ⟨c21, H⟩ | ⟨c21, H⟩
  · refine zA_brF' (c := x12 = x2) rfl rfl rfl c21 ?_
    refine zA_ldn rfl rfl rfl ?_
    rcases zite_e H with ⟨c22, H⟩ | ⟨c22, H⟩
    · refine zA_brT (c := x3 = 0) rfl rfl rfl c22 ?_
      exact zA_tr (L := [some (zrv x0), none, some (zI x2), some (zI x3), some (zI x4), none, some (zI x6), some (zI x7), some (zI x8), some (zI x9), some (zI x10), some (zI x11), some (zI x12), some (zI x13), some (zI s0), none]) rfl rfl (zmS168_82 hk44 _ _ _ _ _ _ _ _ _ _ _ _ _ _ _ _ H)
    · refine zA_brF (c := x3 = 0) rfl rfl rfl c22 ?_
      refine zA_ld rfl rfl rfl ?_
      rcases zb_e H with ⟨x24, h23, C, H⟩ | ⟨E, h23, C, H⟩
      · refine zA_callV (as := [zI x4]) (st' := []) rfl rfl rfl rfl rfl (zmE166 _) rfl (zmS166 C) ?_
        refine zA_go rfl rfl ?_
        exact zA_tr (L := [some (zrv x0), none, some (zI x2), some (zI x3), some (zI x4), none, some (zI x6), some (zI x7), some (zI x8), some (zI x9), some (zI x10), some (zI x11), some (zI x12), some (zI x13), none, none]) rfl rfl (zmS168_91 hk44 _ _ _ _ _ _ _ _ _ _ _ _ _ _ _ _ H)
      · cases H
        exact zA_callX (as := [zI x4]) (st' := []) rfl rfl rfl rfl (zmE166 _) rfl rfl rfl (zmS166 C)
  · refine zA_brT' (c := x12 = x2) rfl rfl rfl c21 ?_
    exact zA_tr (L := [some (zrv x0), none, some (zI x2), some (zI x3), some (zI x4), none, some (zI x6), some (zI x7), some (zI x8), some (zI x9), some (zI x10), some (zI x11), some (zI x12), some (zI x13), some (zI s0), none]) rfl rfl (zmS168_82 hk44 _ _ _ _ _ _ _ _ _ _ _ _ _ _ _ _ H)
def zm168_67 (k44 : zq → Int32 → Int32 → Int32 → Int32 → Int32 → Int32 → Int32 → Int32 → Int32 → Int32 → zH → zRs Int32) (x0 : zq) (x2 : Int32) (x3 : Int32) (x4 : Int32) (x6 : Int32) (x7 : Int32) (x8 : Int32) (x9 : Int32) (x10 : Int32) (x11 : Int32) (x12 : Int32) (x13 : Int32) (h : zH) : zRs Int32 :=
  if x12 = x2 then
    zm168_73 k44 x0 x2 x3 x4 x6 x7 x8 x9 x10 x11 x12 x13 (1 : Int32) h
  else
    zm168_73 k44 x0 x2 x3 x4 x6 x7 x8 x9 x10 x11 x12 x13 (0 : Int32) h
theorem zmS168_67 {k44 : zq → Int32 → Int32 → Int32 → Int32 → Int32 → Int32 → Int32 → Int32 → Int32 → Int32 → zH → zRs Int32} (hk44 : ∀ (x0 : zq) (x2 : Int32) (x3 : Int32) (x4 : Int32) (x6 : Int32) (x7 : Int32) (x8 : Int32) (x9 : Int32) (x10 : Int32) (x11 : Int32) (x12 : Int32) (h : zH) (r : Int32 ⊕ Nat) (h' : zH), k44 x0 x2 x3 x4 x6 x7 x8 x9 x10 x11 x12 h = some (r, h') → zAt 168 44 [some (zrv x0), none, some (zI x2), some (zI x3), some (zI x4), none, some (zI x6), some (zI x7), some (zI x8), some (zI x9), some (zI x10), some (zI x11), some (zI x12), none, none, none] [] h (zoI r) h') : ∀ (x0 : zq) (x2 : Int32) (x3 : Int32) (x4 : Int32) (x6 : Int32) (x7 : Int32) (x8 : Int32) (x9 : Int32) (x10 : Int32) (x11 : Int32) (x12 : Int32) (x13 : Int32) (h : zH) (r : Int32 ⊕ Nat) (h' : zH), zm168_67 k44 x0 x2 x3 x4 x6 x7 x8 x9 x10 x11 x12 x13 h = some (r, h') → zAt 168 67 [some (zrv x0), none, some (zI x2), some (zI x3), some (zI x4), none, some (zI x6), some (zI x7), some (zI x8), some (zI x9), some (zI x10), some (zI x11), some (zI x12), some (zI x13), none, none] [] h (zoI r) h' := by
  intro x0 x2 x3 x4 x6 x7 x8 x9 x10 x11 x12 x13 h r h' H
  unfold zm168_67 at H
  refine zA_ld rfl rfl rfl ?_
  refine zA_ldn rfl rfl rfl ?_
  rcases zite_e H with ⟨c21, H⟩ | ⟨c21, H⟩
  · refine zA_brF' (c := x12 = x2) rfl rfl rfl c21 ?_
    refine zA_push rfl rfl zkk5 ?_
    refine zA_go rfl rfl ?_
    exact zA_tr (L := [some (zrv x0), none, some (zI x2), some (zI x3), some (zI x4), none, some (zI x6), some (zI x7), some (zI x8), some (zI x9), some (zI x10), some (zI x11), some (zI x12), some (zI x13), none, none]) rfl rfl (zmS168_73 hk44 _ _ _ _ _ _ _ _ _ _ _ _ _ _ _ _ H)
  · refine zA_brT' (c := x12 = x2) rfl rfl rfl c21 ?_
    refine zA_push rfl rfl zkk7 ?_
    exact zA_tr (L := [some (zrv x0), none, some (zI x2), some (zI x3), some (zI x4), none, some (zI x6), some (zI x7), some (zI x8), some (zI x9), some (zI x10), some (zI x11), some (zI x12), some (zI x13), none, none]) rfl rfl (zmS168_73 hk44 _ _ _ _ _ _ _ _ _ _ _ _ _ _ _ _ H)
def zm168_44 (k131 : zq → Int32 → Int32 → Int32 → Int32 → Int32 → zH → zRs Int32) : Nat → zq → Int32 → Int32 → Int32 → Int32 → Int32 → Int32 → Int32 → Int32 → Int32 → Int32 → zH → zRs Int32
  | 0, _, _, _, _, _, _, _, _, _, _, _, _ => none
  | n + 1, x0, x2, x3, x4, x6, x7, x8, x9, x10, x11, x12, h =>
    if (3 : Int32) ≤ x12 then
      k131 x0 x2 x3 x9 x10 x11 h
    else
      zlet (((3 : Int32) * x6) + x12) fun x22 =>
      zob 12 x0 fun p24 i25 =>
      zri (zr h p24 i25 13) x22 h fun v35 =>
      if v35 = (-1 : Int32) then
        zm168_73 (zm168_44 k131 n) x0 x2 x3 x4 x6 x7 x8 x9 x10 x11 x12 x22 (1 : Int32) h
      else
        if x8 = 0 then
          zm168_67 (zm168_44 k131 n) x0 x2 x3 x4 x6 x7 x8 x9 x10 x11 x12 x22 h
        else
          zri (zr h p24 i25 13) x22 h fun v46 =>
          if v46 = x7 then
            zm168_73 (zm168_44 k131 n) x0 x2 x3 x4 x6 x7 x8 x9 x10 x11 x12 x22 (1 : Int32) h
          else
            zm168_67 (zm168_44 k131 n) x0 x2 x3 x4 x6 x7 x8 x9 x10 x11 x12 x22 h
theorem zmS168_44 {k131 : zq → Int32 → Int32 → Int32 → Int32 → Int32 → zH → zRs Int32} (hk131 : ∀ (x0 : zq) (x2 : Int32) (x3 : Int32) (x9 : Int32) (x10 : Int32) (x11 : Int32) (h : zH) (r : Int32 ⊕ Nat) (h' : zH), k131 x0 x2 x3 x9 x10 x11 h = some (r, h') → zAt 168 131 [some (zrv x0), none, some (zI x2), some (zI x3), none, none, none, none, none, some (zI x9), some (zI x10), some (zI x11), none, none, none, none] [] h (zoI r) h') : ∀ (n : Nat) (x0 : zq) (x2 : Int32) (x3 : Int32) (x4 : Int32) (x6 : Int32) (x7 : Int32) (x8 : Int32) (x9 : Int32) (x10 : Int32) (x11 : Int32) (x12 : Int32) (h : zH) (r : Int32 ⊕ Nat) (h' : zH), zm168_44 k131 n x0 x2 x3 x4 x6 x7 x8 x9 x10 x11 x12 h = some (r, h') → zAt 168 44 [some (zrv x0), none, some (zI x2), some (zI x3), some (zI x4), none, some (zI x6), some (zI x7), some (zI x8), some (zI x9), some (zI x10), some (zI x11), some (zI x12), none, none, none] [] h (zoI r) h' := by
  intro n
  induction n with
  | zero => intro x0 x2 x3 x4 x6 x7 x8 x9 x10 x11 x12 h r h' H; cases H
  | succ n ih =>
    intro x0 x2 x3 x4 x6 x7 x8 x9 x10 x11 x12 h r h' H
    unfold zm168_44 at H
    refine zA_ld rfl rfl rfl ?_
    refine zA_push rfl rfl zkk3 ?_
    rcases zite_e H with ⟨c21, H⟩ | ⟨c21, H⟩
    · refine zA_brT (c := (3 : Int32) ≤ x12) rfl rfl rfl c21 ?_
      exact zA_tr (L := [some (zrv x0), none, some (zI x2), some (zI x3), none, none, none, none, none, some (zI x9), some (zI x10), some (zI x11), none, none, none, none]) rfl rfl (hk131 _ _ _ _ _ _ _ _ _ H)
    · refine zA_brF (c := (3 : Int32) ≤ x12) rfl rfl rfl c21 ?_
      refine zA_push rfl rfl zkk3 ?_
      refine zA_ld rfl rfl rfl ?_
      refine zA_st (st' := [zI ((3 : Int32) * x6)]) rfl rfl rfl rfl ?_
      refine zA_ld rfl rfl rfl ?_
      refine zA_st (st' := [zI (((3 : Int32) * x6) + x12)]) rfl rfl rfl rfl ?_
      obtain ⟨x22, e23, H⟩ := zlet_e H
      refine zA_ist2 rfl rfl e23 (zset1 (L' := [some (zrv x0), none, some (zI x2), some (zI x3), some (zI x4), none, some (zI x6), some (zI x7), some (zI x8), some (zI x9), some (zI x10), some (zI x11), some (zI x12), some (zI x22), none, none]) rfl rfl (zpcV rfl rfl)) ?_
      refine zA_aldn rfl rfl rfl ?_
      obtain ⟨p24, i25, e26, c27, H⟩ := zob_e H
      refine zA_gf3 rfl rfl e26 c27 ?_
      refine zA_ld rfl rfl rfl ?_
      obtain ⟨p28, i29, j30, v35, e31, c32, c33, e34, e36, H⟩ := zri_e H
      refine zA_ial rfl rfl e31 c32 c33 e34 e36 ?_
      refine zA_push rfl rfl zkk6 ?_
      rcases zite_e H with ⟨c37, H⟩ | ⟨c37, H⟩
      · refine zA_brT (c := v35 = (-1 : Int32)) rfl rfl rfl c37 ?_
        refine zA_push rfl rfl zkk5 ?_
        refine zA_go rfl rfl ?_
        exact zA_tr (L := [some (zrv x0), none, some (zI x2), some (zI x3), some (zI x4), none, some (zI x6), some (zI x7), some (zI x8), some (zI x9), some (zI x10), some (zI x11), some (zI x12), some (zI x22), none, none]) rfl rfl (zmS168_73 ih _ _ _ _ _ _ _ _ _ _ _ _ _ _ _ _ H)
      · refine zA_brF (c := v35 = (-1 : Int32)) rfl rfl rfl c37 ?_
        refine zA_ld rfl rfl rfl ?_
        rcases zite_e H with ⟨c38, H⟩ | ⟨c38, H⟩
        · refine zA_brT (c := x8 = 0) rfl rfl rfl c38 ?_
          exact zA_tr (L := [some (zrv x0), none, some (zI x2), some (zI x3), some (zI x4), none, some (zI x6), some (zI x7), some (zI x8), some (zI x9), some (zI x10), some (zI x11), some (zI x12), some (zI x22), none, none]) rfl rfl (zmS168_67 ih _ _ _ _ _ _ _ _ _ _ _ _ _ _ _ H)
        · refine zA_brF (c := x8 = 0) rfl rfl rfl c38 ?_
          refine zA_aldn rfl rfl rfl ?_
          refine zA_gf3 rfl rfl e26 c27 ?_
          refine zA_ld rfl rfl rfl ?_
          obtain ⟨p39, i40, j41, v46, e42, c43, c44, e45, e47, H⟩ := zri_e H
          refine zA_ial rfl rfl e42 c43 c44 e45 e47 ?_
          refine zA_ld rfl rfl rfl ?_
          rcases zite_e H with ⟨c48, H⟩ | ⟨c48, H⟩
          · refine zA_brT (c := v46 = x7) rfl rfl rfl c48 ?_
            refine zA_push rfl rfl zkk5 ?_
            refine zA_go rfl rfl ?_
            exact zA_tr (L := [some (zrv x0), none, some (zI x2), some (zI x3), some (zI x4), none, some (zI x6), some (zI x7), some (zI x8), some (zI x9), some (zI x10), some (zI x11), some (zI x12), some (zI x22), none, none]) rfl rfl (zmS168_73 ih _ _ _ _ _ _ _ _ _ _ _ _ _ _ _ _ H)
          · refine zA_brF (c := v46 = x7) rfl rfl rfl c48 ?_
            exact zA_tr (L := [some (zrv x0), none, some (zI x2), some (zI x3), some (zI x4), none, some (zI x6), some (zI x7), some (zI x8), some (zI x9), some (zI x10), some (zI x11), some (zI x12), some (zI x22), none, none]) rfl rfl (zmS168_67 ih _ _ _ _ _ _ _ _ _ _ _ _ _ _ _ H)
def zm168_139 (x3 : Int32) (x11 : Int32) (h : zH) : zRs Int32 :=
  if x3 = 0 then
    some (.inl (1 : Int32), h)
  else
    if (4 : Int32) < x11 then
      some (.inl (0 : Int32), h)
    else
      some (.inl (1 : Int32), h)
theorem zmS168_139 : ∀ (x3 : Int32) (x11 : Int32) (h : zH) (r : Int32 ⊕ Nat) (h' : zH), zm168_139 x3 x11 h = some (r, h') → zAt 168 139 [none, none, none, some (zI x3), none, none, none, none, none, none, none, some (zI x11), none, none, none, none] [] h (zoI r) h' := by
  intro x3 x11 h r h' H
  unfold zm168_139 at H
  refine zA_ldn rfl rfl rfl ?_
  rcases zite_e H with ⟨c21, H⟩ | ⟨c21, H⟩
  · refine zA_brT (c := x3 = 0) rfl rfl rfl c21 ?_
    refine zA_tr (L := [none, none, none, none, none, none, none, none, none, none, none, none, none, none, none, none]) rfl rfl ?_
    refine zA_push rfl rfl zkk5 ?_
    refine zA_go rfl rfl ?_
    cases H
    exact zA_ret rfl (zret_Z (by decide))
  · refine zA_brF (c := x3 = 0) rfl rfl rfl c21 ?_
    refine zA_ld rfl rfl rfl ?_
    refine zA_push rfl rfl zkk9 ?_
    rcases zite_e H with ⟨c22, H⟩ | ⟨c22, H⟩
    · refine zA_brT (c := (4 : Int32) < x11) rfl rfl rfl c22 ?_
      refine zA_tr (L := [none, none, none, none, none, none, none, none, none, none, none, none, none, none, none, none]) rfl rfl ?_
      refine zA_push rfl rfl zkk7 ?_
      cases H
      exact zA_ret rfl (zret_Z (by decide))
    · refine zA_brF (c := (4 : Int32) < x11) rfl rfl rfl c22 ?_
      refine zA_tr (L := [none, none, none, none, none, none, none, none, none, none, none, none, none, none, none, none]) rfl rfl ?_
      refine zA_push rfl rfl zkk5 ?_
      refine zA_go rfl rfl ?_
      cases H
      exact zA_ret rfl (zret_Z (by decide))
def zm168_131 (x0 : zq) (x2 : Int32) (x3 : Int32) (x9 : Int32) (x10 : Int32) (x11 : Int32) (h : zH) : zRs Int32 :=
  zob 12 x0 fun p21 i22 =>
  zb (zm165 x0 x2 h) fun x26 h25 =>
  if x10 ≤ x26 then
    zm168_139 x3 x11 h25
  else
    if x9 < x10 then
      some (.inl (0 : Int32), h25)
    else
      zm168_139 x3 x11 h25
theorem zmS168_131 : ∀ (x0 : zq) (x2 : Int32) (x3 : Int32) (x9 : Int32) (x10 : Int32) (x11 : Int32) (h : zH) (r : Int32 ⊕ Nat) (h' : zH), zm168_131 x0 x2 x3 x9 x10 x11 h = some (r, h') → zAt 168 131 [some (zrv x0), none, some (zI x2), some (zI x3), none, none, none, none, none, some (zI x9), some (zI x10), some (zI x11), none, none, none, none] [] h (zoI r) h' := by
  intro x0 x2 x3 x9 x10 x11 h r h' H
  unfold zm168_131 at H
  refine zA_ld rfl rfl rfl ?_
  refine zA_aldn rfl rfl rfl ?_
  refine zA_ldn rfl rfl rfl ?_
  obtain ⟨p21, i22, e23, c24, H⟩ := zob_e H
  rcases zb_e H with ⟨x26, h25, C, H⟩ | ⟨E, h25, C, H⟩
  · refine zA_callV (as := [zrv x0, zI x2]) (st' := [zI x10]) rfl rfl rfl (zrcv_Q e23 c24) rfl (zmE165 _ _) rfl (zmS165 C) ?_
    rcases zite_e H with ⟨c27, H⟩ | ⟨c27, H⟩
    · refine zA_brT (c := x10 ≤ x26) rfl rfl rfl c27 ?_
      exact zA_tr (L := [none, none, none, some (zI x3), none, none, none, none, none, none, none, some (zI x11), none, none, none, none]) rfl rfl (zmS168_139 _ _ _ _ _ H)
    · refine zA_brF (c := x10 ≤ x26) rfl rfl rfl c27 ?_
      refine zA_ld rfl rfl rfl ?_
      refine zA_ld rfl rfl rfl ?_
      rcases zite_e H with ⟨c28, H⟩ | ⟨c28, H⟩
      · refine zA_brT (c := x9 < x10) rfl rfl rfl c28 ?_
        refine zA_tr (L := [none, none, none, none, none, none, none, none, none, none, none, none, none, none, none, none]) rfl rfl ?_
        refine zA_push rfl rfl zkk7 ?_
        cases H
        exact zA_ret rfl (zret_Z (by decide))
      · refine zA_brF (c := x9 < x10) rfl rfl rfl c28 ?_
        exact zA_tr (L := [none, none, none, some (zI x3), none, none, none, none, none, none, none, some (zI x11), none, none, none, none]) rfl rfl (zmS168_139 _ _ _ _ _ H)
  · cases H
    exact zA_callX (as := [zrv x0, zI x2]) (st' := [zI x10]) rfl rfl (zrcv_Q e23 c24) rfl (zmE165 _ _) rfl rfl rfl (zmS165 C)
def zm168_33 (x0 : zq) (x2 : Int32) (x3 : Int32) (x4 : Int32) (x6 : Int32) (x7 : Int32) (s0 : Int32) (h : zH) : zRs Int32 :=
  zob 12 x0 fun p21 i22 =>
  zb (zm167 x0 x2 h) fun x26 h25 =>
  zm168_44 (zm168_131) zN0 x0 x2 x3 x4 x6 x7 s0 x26 x26 (0 : Int32) (0 : Int32) h25
theorem zmS168_33 : ∀ (x0 : zq) (x2 : Int32) (x3 : Int32) (x4 : Int32) (x6 : Int32) (x7 : Int32) (s0 : Int32) (h : zH) (r : Int32 ⊕ Nat) (h' : zH), zm168_33 x0 x2 x3 x4 x6 x7 s0 h = some (r, h') → zAt 168 33 [some (zrv x0), none, some (zI x2), some (zI x3), some (zI x4), none, some (zI x6), some (zI x7), none, none, none, none, none, none, none, none] [zI s0] h (zoI r) h' := by
  intro x0 x2 x3 x4 x6 x7 s0 h r h' H
  unfold zm168_33 at H
  refine zA_ist2 rfl rfl rfl (zset1 (L' := [some (zrv x0), none, some (zI x2), some (zI x3), some (zI x4), none, some (zI x6), some (zI x7), some (zI s0), none, none, none, none, none, none, none]) rfl rfl (zpcV rfl rfl)) ?_
  refine zA_aldn rfl rfl rfl ?_
  refine zA_ldn rfl rfl rfl ?_
  obtain ⟨p21, i22, e23, c24, H⟩ := zob_e H
  rcases zb_e H with ⟨x26, h25, C, H⟩ | ⟨E, h25, C, H⟩
  · refine zA_callV (as := [zrv x0, zI x2]) (st' := []) rfl rfl rfl (zrcv_Q e23 c24) rfl (zmE167 _ _) rfl (zmS167 C) ?_
    refine zA_ist2 rfl rfl rfl (zset1 (L' := [some (zrv x0), none, some (zI x2), some (zI x3), some (zI x4), none, some (zI x6), some (zI x7), some (zI s0), some (zI x26), none, none, none, none, none, none]) rfl rfl (zpcV rfl rfl)) ?_
    refine zA_ld rfl rfl rfl ?_
    refine zA_ist2 rfl rfl rfl (zset1 (L' := [some (zrv x0), none, some (zI x2), some (zI x3), some (zI x4), none, some (zI x6), some (zI x7), some (zI s0), some (zI x26), some (zI x26), none, none, none, none, none]) rfl rfl (zpcV rfl rfl)) ?_
    refine zA_push rfl rfl zkk7 ?_
    refine zA_ist2 rfl rfl rfl (zset1 (L' := [some (zrv x0), none, some (zI x2), some (zI x3), some (zI x4), none, some (zI x6), some (zI x7), some (zI s0), some (zI x26), some (zI x26), some (zI (0 : Int32)), none, none, none, none]) rfl rfl (zpcV rfl rfl)) ?_
    refine zA_push rfl rfl zkk7 ?_
    refine zA_ist2 rfl rfl rfl (zset1 (L' := [some (zrv x0), none, some (zI x2), some (zI x3), some (zI x4), none, some (zI x6), some (zI x7), some (zI s0), some (zI x26), some (zI x26), some (zI (0 : Int32)), some (zI (0 : Int32)), none, none, none]) rfl rfl (zpcV rfl rfl)) ?_
    exact zA_tr (L := [some (zrv x0), none, some (zI x2), some (zI x3), some (zI x4), none, some (zI x6), some (zI x7), some (zI s0), some (zI x26), some (zI x26), some (zI (0 : Int32)), some (zI (0 : Int32)), none, none, none]) rfl rfl (zmS168_44 (zmS168_131) zN0 _ _ _ _ _ _ _ _ _ _ _ _ _ _ H)
  · cases H
    exact zA_callX (as := [zrv x0, zI x2]) (st' := []) rfl rfl (zrcv_Q e23 c24) rfl (zmE167 _ _) rfl rfl rfl (zmS167 C)
-- 168: ReleaseHouseModel.hasRoom(IIZI)Z
def zm168 (x0 : zq) (x1 : Int32) (x2 : Int32) (x3 : Int32) (x4 : Int32) (h : zH) : zRs Int32 :=
  zob 12 x0 fun p21 i22 =>
  zri (zr h p21 i22 31) x1 h fun v32 =>
  zri (zr h p21 i22 3) v32 h fun v41 =>
  zri (zr h p21 i22 13) (((3 : Int32) * v41) + x2) h fun v50 =>
  if v50 = (-1 : Int32) then
    zm168_33 x0 x2 x3 x4 v41 v50 (0 : Int32) h
  else
    if v50 = v32 then
      zm168_33 x0 x2 x3 x4 v41 v50 (0 : Int32) h
    else
      zb (zm157 x0 v50 h) fun x55 h54 =>
      if x55 = (-1 : Int32) then
        zm168_33 x0 x2 x3 x4 v41 v50 (0 : Int32) h54
      else
        zm168_33 x0 x2 x3 x4 v41 v50 (1 : Int32) h54
theorem zmS168 {x0 : zq} {x1 : Int32} {x2 : Int32} {x3 : Int32} {x4 : Int32} {h : zH} {r : Int32 ⊕ Nat} {h' : zH} (H : zm168 x0 x1 x2 x3 x4 h = some (r, h')) : zAt 168 0 [some (zrv x0), some (zI x1), some (zI x2), some (zI x3), some (zI x4), none, none, none, none, none, none, none, none, none, none, none] [] h (zoI r) h' := by
  unfold zm168 at H
  refine zA_aldn rfl rfl rfl ?_
  obtain ⟨p21, i22, e23, c24, H⟩ := zob_e H
  refine zA_gf3 rfl rfl e23 c24 ?_
  refine zA_ldn rfl rfl rfl ?_
  obtain ⟨p25, i26, j27, v32, e28, c29, c30, e31, e33, H⟩ := zri_e H
  refine zA_ial rfl rfl e28 c29 c30 e31 e33 ?_
  refine zA_ist2 rfl rfl rfl (zset1 (L' := [some (zrv x0), some (zI x1), some (zI x2), some (zI x3), some (zI x4), some (zI v32), none, none, none, none, none, none, none, none, none, none]) rfl rfl (zpcV rfl rfl)) ?_
  refine zA_aldn rfl rfl rfl ?_
  refine zA_gf3 rfl rfl e23 c24 ?_
  refine zA_ld rfl rfl rfl ?_
  obtain ⟨p34, i35, j36, v41, e37, c38, c39, e40, e42, H⟩ := zri_e H
  refine zA_ial rfl rfl e37 c38 c39 e40 e42 ?_
  refine zA_ist2 rfl rfl rfl (zset1 (L' := [some (zrv x0), some (zI x1), some (zI x2), some (zI x3), some (zI x4), some (zI v32), some (zI v41), none, none, none, none, none, none, none, none, none]) rfl rfl (zpcV rfl rfl)) ?_
  refine zA_aldn rfl rfl rfl ?_
  refine zA_gf3 rfl rfl e23 c24 ?_
  refine zA_push rfl rfl zkk3 ?_
  refine zA_ld rfl rfl rfl ?_
  refine zA_st (st' := [zI ((3 : Int32) * v41), zrv (zr h p21 i22 13)]) rfl rfl rfl rfl ?_
  refine zA_ldn rfl rfl rfl ?_
  refine zA_st (st' := [zI (((3 : Int32) * v41) + x2), zrv (zr h p21 i22 13)]) rfl rfl rfl rfl ?_
  obtain ⟨p43, i44, j45, v50, e46, c47, c48, e49, e51, H⟩ := zri_e H
  refine zA_ial rfl rfl e46 c47 c48 e49 e51 ?_
  refine zA_ist2 rfl rfl rfl (zset1 (L' := [some (zrv x0), some (zI x1), some (zI x2), some (zI x3), some (zI x4), some (zI v32), some (zI v41), some (zI v50), none, none, none, none, none, none, none, none]) rfl rfl (zpcV rfl rfl)) ?_
  refine zA_ld rfl rfl rfl ?_
  refine zA_push rfl rfl zkk6 ?_
  rcases zite_e H with ⟨c52, H⟩ | ⟨c52, H⟩
  · refine zA_brT (c := v50 = (-1 : Int32)) rfl rfl rfl c52 ?_
    refine zA_tr (L := [some (zrv x0), none, some (zI x2), some (zI x3), some (zI x4), none, some (zI v41), some (zI v50), none, none, none, none, none, none, none, none]) rfl rfl ?_
    refine zA_push rfl rfl zkk7 ?_
    exact zA_tr (L := [some (zrv x0), none, some (zI x2), some (zI x3), some (zI x4), none, some (zI v41), some (zI v50), none, none, none, none, none, none, none, none]) rfl rfl (zmS168_33 _ _ _ _ _ _ _ _ _ _ H)
  · refine zA_brF (c := v50 = (-1 : Int32)) rfl rfl rfl c52 ?_
    refine zA_ld rfl rfl rfl ?_
    refine zA_ld rfl rfl rfl ?_
    rcases zite_e H with ⟨c53, H⟩ | ⟨c53, H⟩
    · refine zA_brT (c := v50 = v32) rfl rfl rfl c53 ?_
      refine zA_tr (L := [some (zrv x0), none, some (zI x2), some (zI x3), some (zI x4), none, some (zI v41), some (zI v50), none, none, none, none, none, none, none, none]) rfl rfl ?_
      refine zA_push rfl rfl zkk7 ?_
      exact zA_tr (L := [some (zrv x0), none, some (zI x2), some (zI x3), some (zI x4), none, some (zI v41), some (zI v50), none, none, none, none, none, none, none, none]) rfl rfl (zmS168_33 _ _ _ _ _ _ _ _ _ _ H)
    · refine zA_brF (c := v50 = v32) rfl rfl rfl c53 ?_
      refine zA_aldn rfl rfl rfl ?_
      refine zA_ld rfl rfl rfl ?_
      rcases zb_e H with ⟨x55, h54, C, H⟩ | ⟨E, h54, C, H⟩
      · refine zA_callV (as := [zrv x0, zI v50]) (st' := []) rfl rfl rfl (zrcv_Q e23 c24) rfl (zmE157 _ _) rfl (zmS157 C) ?_
        refine zA_push rfl rfl zkk6 ?_
        rcases zite_e H with ⟨c56, H⟩ | ⟨c56, H⟩
        · refine zA_brT (c := x55 = (-1 : Int32)) rfl rfl rfl c56 ?_
          refine zA_tr (L := [some (zrv x0), none, some (zI x2), some (zI x3), some (zI x4), none, some (zI v41), some (zI v50), none, none, none, none, none, none, none, none]) rfl rfl ?_
          refine zA_push rfl rfl zkk7 ?_
          exact zA_tr (L := [some (zrv x0), none, some (zI x2), some (zI x3), some (zI x4), none, some (zI v41), some (zI v50), none, none, none, none, none, none, none, none]) rfl rfl (zmS168_33 _ _ _ _ _ _ _ _ _ _ H)
        · refine zA_brF (c := x55 = (-1 : Int32)) rfl rfl rfl c56 ?_
          refine zA_push rfl rfl zkk5 ?_
          refine zA_go rfl rfl ?_
          exact zA_tr (L := [some (zrv x0), none, some (zI x2), some (zI x3), some (zI x4), none, some (zI v41), some (zI v50), none, none, none, none, none, none, none, none]) rfl rfl (zmS168_33 _ _ _ _ _ _ _ _ _ _ H)
      · cases H
        exact zA_callX (as := [zrv x0, zI v50]) (st' := []) rfl rfl (zrcv_Q e23 c24) rfl (zmE157 _ _) rfl rfl rfl (zmS157 C)
theorem zmE168 (x0 : zq) (x1 : Int32) (x2 : Int32) (x3 : Int32) (x4 : Int32) : zpad (zPr.2.1 168).1 (zil [zrv x0, zI x1, zI x2, zI x3, zI x4]) = [some (zrv x0), some (zI x1), some (zI x2), some (zI x3), some (zI x4), none, none, none, none, none, none, none, none, none, none, none] := by
  simp only [zil_A, zil_I, zil_F, zil_D, zil_N]
  rfl
