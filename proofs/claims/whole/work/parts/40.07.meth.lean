set_option maxRecDepth 16384
/-! The methods read back (printed by wip/whole/gen/dec.py). -/
-- 288: ReleaseHouseLaw.experiment(LReleaseHouse;IIIII[J)I
def zm288 (x0 : zq) (x1 : Int32) (x2 : Int32) (x3 : Int32) (x4 : Int32) (x5 : Int32) (x6 : zq) (h : zH) : zRs Int32 :=
  zob 11 x0 fun p21 i22 =>
  zbH [(0, 11, 0, 1), (0, 11, 1, 2)] 8 (zm126 x0 x1 x2 x3 x4 x5 h) fun x26 h25 =>
  zar 3 x6 (0 : Int32) h25 fun p27 i28 j29 =>
  zlet (zsl h25 p27 i28 j29 (x26.toInt64)) fun h34 =>
  some (.inl (0 : Int32), h34)
theorem zmS288 {x0 : zq} {x1 : Int32} {x2 : Int32} {x3 : Int32} {x4 : Int32} {x5 : Int32} {x6 : zq} {h : zH} {r : Int32 ⊕ Nat} {h' : zH} (H : zm288 x0 x1 x2 x3 x4 x5 x6 h = some (r, h')) : zAt 288 0 [some (zrv x0), some (zI x1), some (zI x2), some (zI x3), some (zI x4), some (zI x5), some (zrv x6), none] [] h (zoI r) h' := by
  unfold zm288 at H
  refine zA_ald rfl rfl rfl ?_
  refine zA_push rfl rfl zkk7 ?_
  refine zA_aldn rfl rfl rfl ?_
  refine zA_ldn rfl rfl rfl ?_
  refine zA_ldn rfl rfl rfl ?_
  refine zA_ldn rfl rfl rfl ?_
  refine zA_ld rfl rfl rfl ?_
  refine zA_ld rfl rfl rfl ?_
  obtain ⟨p21, i22, e23, c24, H⟩ := zob_e H
  rcases zbH_e H with ⟨x26, h25, C, H⟩ | ⟨E, h25, c36, C, hc, H⟩
  · refine zA_callV (as := [zrv x0, zI x1, zI x2, zI x3, zI x4, zI x5]) (st' := [zI (0 : Int32), zrv x6]) rfl rfl rfl (zrcv_Q e23 c24) rfl (zmE126 _ _ _ _ _ _) rfl (zmS126 C) ?_
    refine zA_st (st' := [zJ (x26.toInt64), zI (0 : Int32), zrv x6]) rfl rfl rfl rfl ?_
    obtain ⟨p27, i28, j29, e30, c31, c32, e33, H⟩ := zar_e H
    obtain ⟨h34, e35, H⟩ := zlet_e H
    refine zA_las rfl rfl e30 c31 c32 e33 e35 ?_
    refine zA_go rfl rfl ?_
    refine zA_tr (L := [none, none, none, none, none, none, none, none]) rfl rfl ?_
    refine zA_push rfl rfl zkk7 ?_
    cases H
    exact zA_ret rfl rfl
  · cases H
    exact zA_callH (as := [zrv x0, zI x1, zI x2, zI x3, zI x4, zI x5]) (st' := [zI (0 : Int32), zrv x6]) rfl rfl (zrcv_Q e23 c24) rfl (zmE126 _ _ _ _ _ _) rfl rfl rfl (List.cons_ne_nil _ _) hc (zmS126 C)
theorem zmE288 (x0 : zq) (x1 : Int32) (x2 : Int32) (x3 : Int32) (x4 : Int32) (x5 : Int32) (x6 : zq) : zpad (zPr.2.1 288).1 (zil [zrv x0, zI x1, zI x2, zI x3, zI x4, zI x5, zrv x6]) = [some (zrv x0), some (zI x1), some (zI x2), some (zI x3), some (zI x4), some (zI x5), some (zrv x6), none] := by
  simp only [zil_A, zil_I, zil_F, zil_D, zil_N]
  rfl
def zm238_63 (k31 : zq → Int32 → Int32 → Int32 → Int32 → Int32 → Int32 → Int32 → Int32 → zH → zRs Int32) (x0 : zq) (x1 : Int32) (x2 : Int32) (x3 : Int32) (x4 : Int32) (x5 : Int32) (x6 : Int32) (x8 : Int32) (s0 : Int32) (h : zH) : zRs Int32 :=
  zlet (x8 + (1 : Int32)) fun x21 =>
  k31 x0 x1 x2 x3 x4 x5 x6 s0 x21 h
theorem zmS238_63 {k31 : zq → Int32 → Int32 → Int32 → Int32 → Int32 → Int32 → Int32 → Int32 → zH → zRs Int32} (hk31 : ∀ (x0 : zq) (x1 : Int32) (x2 : Int32) (x3 : Int32) (x4 : Int32) (x5 : Int32) (x6 : Int32) (x7 : Int32) (x8 : Int32) (h : zH) (r : Int32 ⊕ Nat) (h' : zH), k31 x0 x1 x2 x3 x4 x5 x6 x7 x8 h = some (r, h') → zAt 238 31 [some (zrv x0), some (zI x1), some (zI x2), some (zI x3), some (zI x4), some (zI x5), some (zI x6), some (zI x7), some (zI x8)] [] h (zoI r) h') : ∀ (x0 : zq) (x1 : Int32) (x2 : Int32) (x3 : Int32) (x4 : Int32) (x5 : Int32) (x6 : Int32) (x8 : Int32) (s0 : Int32) (h : zH) (r : Int32 ⊕ Nat) (h' : zH), zm238_63 k31 x0 x1 x2 x3 x4 x5 x6 x8 s0 h = some (r, h') → zAt 238 63 [some (zrv x0), some (zI x1), some (zI x2), some (zI x3), some (zI x4), some (zI x5), some (zI x6), none, some (zI x8)] [zI s0] h (zoI r) h' := by
  intro x0 x1 x2 x3 x4 x5 x6 x8 s0 h r h' H
  unfold zm238_63 at H
  refine zA_ist2 rfl rfl rfl (zset1 (L' := [some (zrv x0), some (zI x1), some (zI x2), some (zI x3), some (zI x4), some (zI x5), some (zI x6), some (zI s0), some (zI x8)]) rfl rfl (zpcV rfl rfl)) ?_
  obtain ⟨x21, e22, H⟩ := zlet_e H
  refine zA_inc rfl rfl rfl (e22.trans (congrArg (_ + ·) zkk8)) (zset1 (L' := [some (zrv x0), some (zI x1), some (zI x2), some (zI x3), some (zI x4), some (zI x5), some (zI x6), some (zI s0), some (zI x21)]) rfl rfl (zpcV rfl rfl)) ?_
  refine zA_go rfl rfl ?_
  exact zA_tr (L := [some (zrv x0), some (zI x1), some (zI x2), some (zI x3), some (zI x4), some (zI x5), some (zI x6), some (zI s0), some (zI x21)]) rfl rfl (hk31 _ _ _ _ _ _ _ _ _ _ _ _ H)
def zm238_31 (k66 : zq → Int32 → Int32 → Int32 → Int32 → Int32 → Int32 → Int32 → zH → zRs Int32) : Nat → zq → Int32 → Int32 → Int32 → Int32 → Int32 → Int32 → Int32 → Int32 → zH → zRs Int32
  | 0, _, _, _, _, _, _, _, _, _, _ => none
  | n + 1, x0, x1, x2, x3, x4, x5, x6, x7, x8, h =>
    zob 12 x0 fun p21 i22 =>
    if (zi h p21 i22 71) ≤ x8 then
      k66 x0 x1 x2 x3 x4 x5 x6 x7 h
    else
      if x7 = 0 then
        zm238_63 (zm238_31 k66 n) x0 x1 x2 x3 x4 x5 x6 x8 (0 : Int32) h
      else
        zrb (zr h p21 i22 77) x8 h fun v34 =>
        if v34 = 0 then
          zri (zr h p21 i22 72) x8 h fun v44 =>
          if v44 = x1 then
            zri (zr h p21 i22 74) x8 h fun v54 =>
            if x4 < v54 then
              zm238_63 (zm238_31 k66 n) x0 x1 x2 x3 x4 x5 x6 x8 (1 : Int32) h
            else
              zri (zr h p21 i22 75) x8 h fun v64 =>
              if x3 ≤ v64 then
                zm238_63 (zm238_31 k66 n) x0 x1 x2 x3 x4 x5 x6 x8 (0 : Int32) h
              else
                zm238_63 (zm238_31 k66 n) x0 x1 x2 x3 x4 x5 x6 x8 (1 : Int32) h
          else
            zm238_63 (zm238_31 k66 n) x0 x1 x2 x3 x4 x5 x6 x8 (1 : Int32) h
        else
          zm238_63 (zm238_31 k66 n) x0 x1 x2 x3 x4 x5 x6 x8 (1 : Int32) h
theorem zmS238_31 {k66 : zq → Int32 → Int32 → Int32 → Int32 → Int32 → Int32 → Int32 → zH → zRs Int32} (hk66 : ∀ (x0 : zq) (x1 : Int32) (x2 : Int32) (x3 : Int32) (x4 : Int32) (x5 : Int32) (x6 : Int32) (x7 : Int32) (h : zH) (r : Int32 ⊕ Nat) (h' : zH), k66 x0 x1 x2 x3 x4 x5 x6 x7 h = some (r, h') → zAt 238 66 [some (zrv x0), some (zI x1), some (zI x2), some (zI x3), some (zI x4), some (zI x5), some (zI x6), some (zI x7), none] [] h (zoI r) h') : ∀ (n : Nat) (x0 : zq) (x1 : Int32) (x2 : Int32) (x3 : Int32) (x4 : Int32) (x5 : Int32) (x6 : Int32) (x7 : Int32) (x8 : Int32) (h : zH) (r : Int32 ⊕ Nat) (h' : zH), zm238_31 k66 n x0 x1 x2 x3 x4 x5 x6 x7 x8 h = some (r, h') → zAt 238 31 [some (zrv x0), some (zI x1), some (zI x2), some (zI x3), some (zI x4), some (zI x5), some (zI x6), some (zI x7), some (zI x8)] [] h (zoI r) h' := by
  intro n
  induction n with
  | zero => intro x0 x1 x2 x3 x4 x5 x6 x7 x8 h r h' H; cases H
  | succ n ih =>
    intro x0 x1 x2 x3 x4 x5 x6 x7 x8 h r h' H
    unfold zm238_31 at H
    refine zA_ld rfl rfl rfl ?_
    refine zA_aldn rfl rfl rfl ?_
    obtain ⟨p21, i22, e23, c24, H⟩ := zob_e H
    refine zA_gf0 rfl rfl (Or.inl rfl) e23 c24 ?_
    rcases zite_e H with ⟨c25, H⟩ | ⟨c25, H⟩
    · refine zA_brT (c := (zi h p21 i22 71) ≤ x8) rfl rfl rfl c25 ?_
      exact zA_tr (L := [some (zrv x0), some (zI x1), some (zI x2), some (zI x3), some (zI x4), some (zI x5), some (zI x6), some (zI x7), none]) rfl rfl (hk66 _ _ _ _ _ _ _ _ _ _ _ H)
    · refine zA_brF (c := (zi h p21 i22 71) ≤ x8) rfl rfl rfl c25 ?_
      refine zA_ld rfl rfl rfl ?_
      rcases zite_e H with ⟨c26, H⟩ | ⟨c26, H⟩
      · refine zA_brT (c := x7 = 0) rfl rfl rfl c26 ?_
        refine zA_tr (L := [some (zrv x0), some (zI x1), some (zI x2), some (zI x3), some (zI x4), some (zI x5), some (zI x6), none, some (zI x8)]) rfl rfl ?_
        refine zA_push rfl rfl zkk7 ?_
        exact zA_tr (L := [some (zrv x0), some (zI x1), some (zI x2), some (zI x3), some (zI x4), some (zI x5), some (zI x6), none, some (zI x8)]) rfl rfl (zmS238_63 ih _ _ _ _ _ _ _ _ _ _ _ _ H)
      · refine zA_brF (c := x7 = 0) rfl rfl rfl c26 ?_
        refine zA_aldn rfl rfl rfl ?_
        refine zA_gf3 rfl rfl e23 c24 ?_
        refine zA_ld rfl rfl rfl ?_
        obtain ⟨p27, i28, j29, v34, e30, c31, c32, e33, e35, H⟩ := zrb_e H
        refine zA_bal rfl rfl e30 c31 c32 e33 e35 ?_
        rcases zite_e H with ⟨c36, H⟩ | ⟨c36, H⟩
        · refine zA_brF' (c := v34 = 0) rfl rfl rfl c36 ?_
          refine zA_aldn rfl rfl rfl ?_
          refine zA_gf3 rfl rfl e23 c24 ?_
          refine zA_ld rfl rfl rfl ?_
          obtain ⟨p37, i38, j39, v44, e40, c41, c42, e43, e45, H⟩ := zri_e H
          refine zA_ial rfl rfl e40 c41 c42 e43 e45 ?_
          refine zA_ldn rfl rfl rfl ?_
          rcases zite_e H with ⟨c46, H⟩ | ⟨c46, H⟩
          · refine zA_brF' (c := v44 = x1) rfl rfl rfl c46 ?_
            refine zA_ld rfl rfl rfl ?_
            refine zA_aldn rfl rfl rfl ?_
            refine zA_gf3 rfl rfl e23 c24 ?_
            refine zA_ld rfl rfl rfl ?_
            obtain ⟨p47, i48, j49, v54, e50, c51, c52, e53, e55, H⟩ := zri_e H
            refine zA_ial rfl rfl e50 c51 c52 e53 e55 ?_
            rcases zite_e H with ⟨c56, H⟩ | ⟨c56, H⟩
            · refine zA_brT (c := x4 < v54) rfl rfl rfl c56 ?_
              refine zA_tr (L := [some (zrv x0), some (zI x1), some (zI x2), some (zI x3), some (zI x4), some (zI x5), some (zI x6), none, some (zI x8)]) rfl rfl ?_
              refine zA_push rfl rfl zkk5 ?_
              refine zA_go rfl rfl ?_
              exact zA_tr (L := [some (zrv x0), some (zI x1), some (zI x2), some (zI x3), some (zI x4), some (zI x5), some (zI x6), none, some (zI x8)]) rfl rfl (zmS238_63 ih _ _ _ _ _ _ _ _ _ _ _ _ H)
            · refine zA_brF (c := x4 < v54) rfl rfl rfl c56 ?_
              refine zA_ldn rfl rfl rfl ?_
              refine zA_aldn rfl rfl rfl ?_
              refine zA_gf3 rfl rfl e23 c24 ?_
              refine zA_ld rfl rfl rfl ?_
              obtain ⟨p57, i58, j59, v64, e60, c61, c62, e63, e65, H⟩ := zri_e H
              refine zA_ial rfl rfl e60 c61 c62 e63 e65 ?_
              rcases zite_e H with ⟨c66, H⟩ | ⟨c66, H⟩
              · refine zA_brT (c := x3 ≤ v64) rfl rfl rfl c66 ?_
                refine zA_tr (L := [some (zrv x0), some (zI x1), some (zI x2), some (zI x3), some (zI x4), some (zI x5), some (zI x6), none, some (zI x8)]) rfl rfl ?_
                refine zA_push rfl rfl zkk7 ?_
                exact zA_tr (L := [some (zrv x0), some (zI x1), some (zI x2), some (zI x3), some (zI x4), some (zI x5), some (zI x6), none, some (zI x8)]) rfl rfl (zmS238_63 ih _ _ _ _ _ _ _ _ _ _ _ _ H)
              · refine zA_brF (c := x3 ≤ v64) rfl rfl rfl c66 ?_
                refine zA_tr (L := [some (zrv x0), some (zI x1), some (zI x2), some (zI x3), some (zI x4), some (zI x5), some (zI x6), none, some (zI x8)]) rfl rfl ?_
                refine zA_push rfl rfl zkk5 ?_
                refine zA_go rfl rfl ?_
                exact zA_tr (L := [some (zrv x0), some (zI x1), some (zI x2), some (zI x3), some (zI x4), some (zI x5), some (zI x6), none, some (zI x8)]) rfl rfl (zmS238_63 ih _ _ _ _ _ _ _ _ _ _ _ _ H)
          · refine zA_brT' (c := v44 = x1) rfl rfl rfl c46 ?_
            refine zA_tr (L := [some (zrv x0), some (zI x1), some (zI x2), some (zI x3), some (zI x4), some (zI x5), some (zI x6), none, some (zI x8)]) rfl rfl ?_
            refine zA_push rfl rfl zkk5 ?_
            refine zA_go rfl rfl ?_
            exact zA_tr (L := [some (zrv x0), some (zI x1), some (zI x2), some (zI x3), some (zI x4), some (zI x5), some (zI x6), none, some (zI x8)]) rfl rfl (zmS238_63 ih _ _ _ _ _ _ _ _ _ _ _ _ H)
        · refine zA_brT' (c := v34 = 0) rfl rfl rfl c36 ?_
          refine zA_tr (L := [some (zrv x0), some (zI x1), some (zI x2), some (zI x3), some (zI x4), some (zI x5), some (zI x6), none, some (zI x8)]) rfl rfl ?_
          refine zA_push rfl rfl zkk5 ?_
          refine zA_go rfl rfl ?_
          exact zA_tr (L := [some (zrv x0), some (zI x1), some (zI x2), some (zI x3), some (zI x4), some (zI x5), some (zI x6), none, some (zI x8)]) rfl rfl (zmS238_63 ih _ _ _ _ _ _ _ _ _ _ _ _ H)
def zm238_80 (x0 : zq) (x1 : Int32) (x2 : Int32) (x3 : Int32) (x4 : Int32) (x5 : Int32) (s0 : zq) (s1 : Int32) (h : zH) : zRs Int32 :=
  zob 12 s0 fun p21 i22 =>
  zlet (zsi h p21 i22 0 s1) fun h25 =>
  zob 12 x0 fun p27 i28 =>
  if (zi h25 p27 i28 0) ≤ 0 then
    zar 1 (zr h25 p27 i28 72) (zi h25 p27 i28 71) h25 fun p32 i33 j34 =>
    zlet (zsi h25 p32 i33 j34 x1) fun h39 =>
    zar 1 (zr h39 p27 i28 73) (zi h39 p27 i28 71) h39 fun p41 i42 j43 =>
    zlet (zsi h39 p41 i42 j43 x2) fun h48 =>
    zar 1 (zr h48 p27 i28 74) (zi h48 p27 i28 71) h48 fun p50 i51 j52 =>
    zlet (zsi h48 p50 i51 j52 x3) fun h57 =>
    zar 1 (zr h57 p27 i28 75) (zi h57 p27 i28 71) h57 fun p59 i60 j61 =>
    zlet (zsi h57 p59 i60 j61 x4) fun h66 =>
    zar 1 (zr h66 p27 i28 76) (zi h66 p27 i28 71) h66 fun p68 i69 j70 =>
    zlet (zsi h66 p68 i69 j70 x5) fun h75 =>
    zlet (zsi h75 p27 i28 71 ((zi h75 p27 i28 71) + (1 : Int32))) fun h77 =>
    some (.inl ((zi h77 p27 i28 71) - (1 : Int32)), h77)
  else
    some (.inl (0 : Int32), h25)
theorem zmS238_80 : ∀ (x0 : zq) (x1 : Int32) (x2 : Int32) (x3 : Int32) (x4 : Int32) (x5 : Int32) (s0 : zq) (s1 : Int32) (h : zH) (r : Int32 ⊕ Nat) (h' : zH), zm238_80 x0 x1 x2 x3 x4 x5 s0 s1 h = some (r, h') → zAt 238 80 [some (zrv x0), some (zI x1), some (zI x2), some (zI x3), some (zI x4), some (zI x5), none, none, none] [zI s1, zrv s0] h (zoI r) h' := by
  intro x0 x1 x2 x3 x4 x5 s0 s1 h r h' H
  unfold zm238_80 at H
  obtain ⟨p21, i22, e23, c24, H⟩ := zob_e H
  obtain ⟨h25, e26, H⟩ := zlet_e H
  refine zA_pf0 rfl rfl e23 c24 e26 ?_
  refine zA_aldn rfl rfl rfl ?_
  obtain ⟨p27, i28, e29, c30, H⟩ := zob_e H
  refine zA_gf0 rfl rfl (Or.inl rfl) e29 c30 ?_
  rcases zite_e H with ⟨c31, H⟩ | ⟨c31, H⟩
  · refine zA_brT (c := (zi h25 p27 i28 0) ≤ 0) rfl rfl rfl c31 ?_
    refine zA_aldn rfl rfl rfl ?_
    refine zA_gf3 rfl rfl e29 c30 ?_
    refine zA_aldn rfl rfl rfl ?_
    refine zA_gf0 rfl rfl (Or.inl rfl) e29 c30 ?_
    refine zA_ldn rfl rfl rfl ?_
    obtain ⟨p32, i33, j34, e35, c36, c37, e38, H⟩ := zar_e H
    obtain ⟨h39, e40, H⟩ := zlet_e H
    refine zA_ias rfl rfl e35 c36 c37 e38 e40 ?_
    refine zA_aldn rfl rfl rfl ?_
    refine zA_gf3 rfl rfl e29 c30 ?_
    refine zA_aldn rfl rfl rfl ?_
    refine zA_gf0 rfl rfl (Or.inl rfl) e29 c30 ?_
    refine zA_ldn rfl rfl rfl ?_
    obtain ⟨p41, i42, j43, e44, c45, c46, e47, H⟩ := zar_e H
    obtain ⟨h48, e49, H⟩ := zlet_e H
    refine zA_ias rfl rfl e44 c45 c46 e47 e49 ?_
    refine zA_aldn rfl rfl rfl ?_
    refine zA_gf3 rfl rfl e29 c30 ?_
    refine zA_aldn rfl rfl rfl ?_
    refine zA_gf0 rfl rfl (Or.inl rfl) e29 c30 ?_
    refine zA_ldn rfl rfl rfl ?_
    obtain ⟨p50, i51, j52, e53, c54, c55, e56, H⟩ := zar_e H
    obtain ⟨h57, e58, H⟩ := zlet_e H
    refine zA_ias rfl rfl e53 c54 c55 e56 e58 ?_
    refine zA_aldn rfl rfl rfl ?_
    refine zA_gf3 rfl rfl e29 c30 ?_
    refine zA_aldn rfl rfl rfl ?_
    refine zA_gf0 rfl rfl (Or.inl rfl) e29 c30 ?_
    refine zA_ld rfl rfl rfl ?_
    obtain ⟨p59, i60, j61, e62, c63, c64, e65, H⟩ := zar_e H
    obtain ⟨h66, e67, H⟩ := zlet_e H
    refine zA_ias rfl rfl e62 c63 c64 e65 e67 ?_
    refine zA_aldn rfl rfl rfl ?_
    refine zA_gf3 rfl rfl e29 c30 ?_
    refine zA_aldn rfl rfl rfl ?_
    refine zA_gf0 rfl rfl (Or.inl rfl) e29 c30 ?_
    refine zA_ld rfl rfl rfl ?_
    obtain ⟨p68, i69, j70, e71, c72, c73, e74, H⟩ := zar_e H
    obtain ⟨h75, e76, H⟩ := zlet_e H
    refine zA_ias rfl rfl e71 c72 c73 e74 e76 ?_
    refine zA_aldn rfl rfl rfl ?_
    refine zA_dup rfl rfl (zcat_rv _) ?_
    refine zA_gf0 rfl rfl (Or.inl rfl) e29 c30 ?_
    refine zA_push rfl rfl zkk5 ?_
    refine zA_st (st' := [zI ((zi h75 p27 i28 71) + (1 : Int32)), zrv x0]) rfl rfl rfl rfl ?_
    obtain ⟨h77, e78, H⟩ := zlet_e H
    refine zA_pf0 rfl rfl e29 c30 e78 ?_
    refine zA_aldn rfl rfl rfl ?_
    refine zA_gf0 rfl rfl (Or.inl rfl) e29 c30 ?_
    refine zA_push rfl rfl zkk5 ?_
    refine zA_st (st' := [zI ((zi h77 p27 i28 71) - (1 : Int32))]) rfl rfl rfl rfl ?_
    cases H
    exact zA_ret rfl rfl
  · refine zA_brF (c := (zi h25 p27 i28 0) ≤ 0) rfl rfl rfl c31 ?_
    refine zA_push rfl rfl zkk7 ?_
    cases H
    exact zA_ret rfl rfl
def zm238_66 (x0 : zq) (x1 : Int32) (x2 : Int32) (x3 : Int32) (x4 : Int32) (x5 : Int32) (x6 : Int32) (x7 : Int32) (h : zH) : zRs Int32 :=
  if x6 = 0 then
    zm238_80 x0 x1 x2 x3 x4 x5 x0 (1 : Int32) h
  else
    zob 12 x0 fun p22 i23 =>
    if (zi h p22 i23 71) = (8 : Int32) then
      zm238_80 x0 x1 x2 x3 x4 x5 x0 (2 : Int32) h
    else
      if x7 = 0 then
        zm238_80 x0 x1 x2 x3 x4 x5 x0 (2 : Int32) h
      else
        zm238_80 x0 x1 x2 x3 x4 x5 x0 (0 : Int32) h
theorem zmS238_66 : ∀ (x0 : zq) (x1 : Int32) (x2 : Int32) (x3 : Int32) (x4 : Int32) (x5 : Int32) (x6 : Int32) (x7 : Int32) (h : zH) (r : Int32 ⊕ Nat) (h' : zH), zm238_66 x0 x1 x2 x3 x4 x5 x6 x7 h = some (r, h') → zAt 238 66 [some (zrv x0), some (zI x1), some (zI x2), some (zI x3), some (zI x4), some (zI x5), some (zI x6), some (zI x7), none] [] h (zoI r) h' := by
  intro x0 x1 x2 x3 x4 x5 x6 x7 h r h' H
  unfold zm238_66 at H
  refine zA_aldn rfl rfl rfl ?_
  refine zA_ld rfl rfl rfl ?_
  rcases zite_e H with ⟨c21, H⟩ | ⟨c21, H⟩
  · refine zA_brF' (c := x6 = 0) rfl rfl rfl c21 ?_
    refine zA_push rfl rfl zkk5 ?_
    refine zA_go rfl rfl ?_
    exact zA_tr (L := [some (zrv x0), some (zI x1), some (zI x2), some (zI x3), some (zI x4), some (zI x5), none, none, none]) rfl rfl (zmS238_80 _ _ _ _ _ _ _ _ _ _ _ H)
  · refine zA_brT' (c := x6 = 0) rfl rfl rfl c21 ?_
    refine zA_tr (L := [some (zrv x0), some (zI x1), some (zI x2), some (zI x3), some (zI x4), some (zI x5), none, some (zI x7), none]) rfl rfl ?_
    refine zA_aldn rfl rfl rfl ?_
    obtain ⟨p22, i23, e24, c25, H⟩ := zob_e H
    refine zA_gf0 rfl rfl (Or.inl rfl) e24 c25 ?_
    refine zA_push rfl rfl zkk0 ?_
    rcases zite_e H with ⟨c26, H⟩ | ⟨c26, H⟩
    · refine zA_brT (c := (zi h p22 i23 71) = (8 : Int32)) rfl rfl rfl c26 ?_
      refine zA_tr (L := [some (zrv x0), some (zI x1), some (zI x2), some (zI x3), some (zI x4), some (zI x5), none, none, none]) rfl rfl ?_
      refine zA_push rfl rfl zkk23 ?_
      refine zA_go rfl rfl ?_
      exact zA_tr (L := [some (zrv x0), some (zI x1), some (zI x2), some (zI x3), some (zI x4), some (zI x5), none, none, none]) rfl rfl (zmS238_80 _ _ _ _ _ _ _ _ _ _ _ H)
    · refine zA_brF (c := (zi h p22 i23 71) = (8 : Int32)) rfl rfl rfl c26 ?_
      refine zA_ld rfl rfl rfl ?_
      rcases zite_e H with ⟨c27, H⟩ | ⟨c27, H⟩
      · refine zA_brF' (c := x7 = 0) rfl rfl rfl c27 ?_
        refine zA_tr (L := [some (zrv x0), some (zI x1), some (zI x2), some (zI x3), some (zI x4), some (zI x5), none, none, none]) rfl rfl ?_
        refine zA_push rfl rfl zkk23 ?_
        refine zA_go rfl rfl ?_
        exact zA_tr (L := [some (zrv x0), some (zI x1), some (zI x2), some (zI x3), some (zI x4), some (zI x5), none, none, none]) rfl rfl (zmS238_80 _ _ _ _ _ _ _ _ _ _ _ H)
      · refine zA_brT' (c := x7 = 0) rfl rfl rfl c27 ?_
        refine zA_tr (L := [some (zrv x0), some (zI x1), some (zI x2), some (zI x3), some (zI x4), some (zI x5), none, none, none]) rfl rfl ?_
        refine zA_push rfl rfl zkk7 ?_
        exact zA_tr (L := [some (zrv x0), some (zI x1), some (zI x2), some (zI x3), some (zI x4), some (zI x5), none, none, none]) rfl rfl (zmS238_80 _ _ _ _ _ _ _ _ _ _ _ H)
def zm238_26 (x0 : zq) (x1 : Int32) (x2 : Int32) (x3 : Int32) (x4 : Int32) (x5 : Int32) (s0 : Int32) (h : zH) : zRs Int32 :=
  zm238_31 (zm238_66) zN0 x0 x1 x2 x3 x4 x5 s0 (1 : Int32) (0 : Int32) h
theorem zmS238_26 : ∀ (x0 : zq) (x1 : Int32) (x2 : Int32) (x3 : Int32) (x4 : Int32) (x5 : Int32) (s0 : Int32) (h : zH) (r : Int32 ⊕ Nat) (h' : zH), zm238_26 x0 x1 x2 x3 x4 x5 s0 h = some (r, h') → zAt 238 26 [some (zrv x0), some (zI x1), some (zI x2), some (zI x3), some (zI x4), some (zI x5), none, none, none] [zI s0] h (zoI r) h' := by
  intro x0 x1 x2 x3 x4 x5 s0 h r h' H
  unfold zm238_26 at H
  refine zA_ist2 rfl rfl rfl (zset1 (L' := [some (zrv x0), some (zI x1), some (zI x2), some (zI x3), some (zI x4), some (zI x5), some (zI s0), none, none]) rfl rfl (zpcV rfl rfl)) ?_
  refine zA_push rfl rfl zkk5 ?_
  refine zA_ist2 rfl rfl rfl (zset1 (L' := [some (zrv x0), some (zI x1), some (zI x2), some (zI x3), some (zI x4), some (zI x5), some (zI s0), some (zI (1 : Int32)), none]) rfl rfl (zpcV rfl rfl)) ?_
  refine zA_push rfl rfl zkk7 ?_
  refine zA_ist2 rfl rfl rfl (zset1 (L' := [some (zrv x0), some (zI x1), some (zI x2), some (zI x3), some (zI x4), some (zI x5), some (zI s0), some (zI (1 : Int32)), some (zI (0 : Int32))]) rfl rfl (zpcV rfl rfl)) ?_
  exact zA_tr (L := [some (zrv x0), some (zI x1), some (zI x2), some (zI x3), some (zI x4), some (zI x5), some (zI s0), some (zI (1 : Int32)), some (zI (0 : Int32))]) rfl rfl (zmS238_31 (zmS238_66) zN0 _ _ _ _ _ _ _ _ _ _ _ _ H)
-- 238: ReleaseHouseModel.experiment(IIIII)I
def zm238 (x0 : zq) (x1 : Int32) (x2 : Int32) (x3 : Int32) (x4 : Int32) (x5 : Int32) (h : zH) : zRs Int32 :=
  zb (zm139 x1 (0 : Int32) (2 : Int32) h) fun x22 h21 =>
  if x22 = 0 then
    zm238_26 x0 x1 x2 x3 x4 x5 (0 : Int32) h21
  else
    zb (zm229 x2 h21) fun x25 h24 =>
    if x25 = 0 then
      zm238_26 x0 x1 x2 x3 x4 x5 (0 : Int32) h24
    else
      zb (zm139 x3 (0 : Int32) (99 : Int32) h24) fun x28 h27 =>
      if x28 = 0 then
        zm238_26 x0 x1 x2 x3 x4 x5 (0 : Int32) h27
      else
        zb (zm139 x4 x3 (99 : Int32) h27) fun x31 h30 =>
        if x31 = 0 then
          zm238_26 x0 x1 x2 x3 x4 x5 (0 : Int32) h30
        else
          zb (zm139 x5 (2 : Int32) (4 : Int32) h30) fun x34 h33 =>
          if x34 = 0 then
            zm238_26 x0 x1 x2 x3 x4 x5 (0 : Int32) h33
          else
            zm238_26 x0 x1 x2 x3 x4 x5 (1 : Int32) h33
theorem zmS238 {x0 : zq} {x1 : Int32} {x2 : Int32} {x3 : Int32} {x4 : Int32} {x5 : Int32} {h : zH} {r : Int32 ⊕ Nat} {h' : zH} (H : zm238 x0 x1 x2 x3 x4 x5 h = some (r, h')) : zAt 238 0 [some (zrv x0), some (zI x1), some (zI x2), some (zI x3), some (zI x4), some (zI x5), none, none, none] [] h (zoI r) h' := by
  unfold zm238 at H
  refine zA_ldn rfl rfl rfl ?_
  refine zA_push rfl rfl zkk7 ?_
  refine zA_push rfl rfl zkk23 ?_
  rcases zb_e H with ⟨x22, h21, C, H⟩ | ⟨E, h21, C, H⟩
  · refine zA_callV (as := [zI x1, zI (0 : Int32), zI (2 : Int32)]) (st' := []) rfl rfl rfl rfl rfl (zmE139 _ _ _) rfl (zmS139 C) ?_
    rcases zite_e H with ⟨c23, H⟩ | ⟨c23, H⟩
    · refine zA_brT (c := x22 = 0) rfl rfl rfl c23 ?_
      refine zA_push rfl rfl zkk7 ?_
      exact zA_tr (L := [some (zrv x0), some (zI x1), some (zI x2), some (zI x3), some (zI x4), some (zI x5), none, none, none]) rfl rfl (zmS238_26 _ _ _ _ _ _ _ _ _ _ H)
    · refine zA_brF (c := x22 = 0) rfl rfl rfl c23 ?_
      refine zA_ldn rfl rfl rfl ?_
      rcases zb_e H with ⟨x25, h24, C, H⟩ | ⟨E, h24, C, H⟩
      · refine zA_callV (as := [zI x2]) (st' := []) rfl rfl rfl rfl rfl (zmE229 _) rfl (zmS229 C) ?_
        rcases zite_e H with ⟨c26, H⟩ | ⟨c26, H⟩
        · refine zA_brT (c := x25 = 0) rfl rfl rfl c26 ?_
          refine zA_push rfl rfl zkk7 ?_
          exact zA_tr (L := [some (zrv x0), some (zI x1), some (zI x2), some (zI x3), some (zI x4), some (zI x5), none, none, none]) rfl rfl (zmS238_26 _ _ _ _ _ _ _ _ _ _ H)
        · refine zA_brF (c := x25 = 0) rfl rfl rfl c26 ?_
          refine zA_ldn rfl rfl rfl ?_
          refine zA_push rfl rfl zkk7 ?_
          refine zA_push rfl rfl zkk60 ?_
          rcases zb_e H with ⟨x28, h27, C, H⟩ | ⟨E, h27, C, H⟩
          · refine zA_callV (as := [zI x3, zI (0 : Int32), zI (99 : Int32)]) (st' := []) rfl rfl rfl rfl rfl (zmE139 _ _ _) rfl (zmS139 C) ?_
            rcases zite_e H with ⟨c29, H⟩ | ⟨c29, H⟩
            · refine zA_brT (c := x28 = 0) rfl rfl rfl c29 ?_
              refine zA_push rfl rfl zkk7 ?_
              exact zA_tr (L := [some (zrv x0), some (zI x1), some (zI x2), some (zI x3), some (zI x4), some (zI x5), none, none, none]) rfl rfl (zmS238_26 _ _ _ _ _ _ _ _ _ _ H)
            · refine zA_brF (c := x28 = 0) rfl rfl rfl c29 ?_
              refine zA_ld rfl rfl rfl ?_
              refine zA_ldn rfl rfl rfl ?_
              refine zA_push rfl rfl zkk60 ?_
              rcases zb_e H with ⟨x31, h30, C, H⟩ | ⟨E, h30, C, H⟩
              · refine zA_callV (as := [zI x4, zI x3, zI (99 : Int32)]) (st' := []) rfl rfl rfl rfl rfl (zmE139 _ _ _) rfl (zmS139 C) ?_
                rcases zite_e H with ⟨c32, H⟩ | ⟨c32, H⟩
                · refine zA_brT (c := x31 = 0) rfl rfl rfl c32 ?_
                  refine zA_push rfl rfl zkk7 ?_
                  exact zA_tr (L := [some (zrv x0), some (zI x1), some (zI x2), some (zI x3), some (zI x4), some (zI x5), none, none, none]) rfl rfl (zmS238_26 _ _ _ _ _ _ _ _ _ _ H)
                · refine zA_brF (c := x31 = 0) rfl rfl rfl c32 ?_
                  refine zA_ld rfl rfl rfl ?_
                  refine zA_push rfl rfl zkk23 ?_
                  refine zA_push rfl rfl zkk9 ?_
                  rcases zb_e H with ⟨x34, h33, C, H⟩ | ⟨E, h33, C, H⟩
                  · refine zA_callV (as := [zI x5, zI (2 : Int32), zI (4 : Int32)]) (st' := []) rfl rfl rfl rfl rfl (zmE139 _ _ _) rfl (zmS139 C) ?_
                    rcases zite_e H with ⟨c35, H⟩ | ⟨c35, H⟩
                    · refine zA_brT (c := x34 = 0) rfl rfl rfl c35 ?_
                      refine zA_push rfl rfl zkk7 ?_
                      exact zA_tr (L := [some (zrv x0), some (zI x1), some (zI x2), some (zI x3), some (zI x4), some (zI x5), none, none, none]) rfl rfl (zmS238_26 _ _ _ _ _ _ _ _ _ _ H)
                    · refine zA_brF (c := x34 = 0) rfl rfl rfl c35 ?_
                      refine zA_push rfl rfl zkk5 ?_
                      refine zA_go rfl rfl ?_
                      exact zA_tr (L := [some (zrv x0), some (zI x1), some (zI x2), some (zI x3), some (zI x4), some (zI x5), none, none, none]) rfl rfl (zmS238_26 _ _ _ _ _ _ _ _ _ _ H)
                  · cases H
                    exact zA_callX (as := [zI x5, zI (2 : Int32), zI (4 : Int32)]) (st' := []) rfl rfl rfl rfl (zmE139 _ _ _) rfl rfl rfl (zmS139 C)
              · cases H
                exact zA_callX (as := [zI x4, zI x3, zI (99 : Int32)]) (st' := []) rfl rfl rfl rfl (zmE139 _ _ _) rfl rfl rfl (zmS139 C)
          · cases H
            exact zA_callX (as := [zI x3, zI (0 : Int32), zI (99 : Int32)]) (st' := []) rfl rfl rfl rfl (zmE139 _ _ _) rfl rfl rfl (zmS139 C)
      · cases H
        exact zA_callX (as := [zI x2]) (st' := []) rfl rfl rfl rfl (zmE229 _) rfl rfl rfl (zmS229 C)
  · cases H
    exact zA_callX (as := [zI x1, zI (0 : Int32), zI (2 : Int32)]) (st' := []) rfl rfl rfl rfl (zmE139 _ _ _) rfl rfl rfl (zmS139 C)
theorem zmE238 (x0 : zq) (x1 : Int32) (x2 : Int32) (x3 : Int32) (x4 : Int32) (x5 : Int32) : zpad (zPr.2.1 238).1 (zil [zrv x0, zI x1, zI x2, zI x3, zI x4, zI x5]) = [some (zrv x0), some (zI x1), some (zI x2), some (zI x3), some (zI x4), some (zI x5), none, none, none] := by
  simp only [zil_A, zil_I, zil_F, zil_D, zil_N]
  rfl
-- 128: ReleaseHouse.conclude(I)V
def zm128 (x0 : zq) (x1 : Int32) (h : zH) : zRs Unit :=
  zob 11 x0 fun p21 i22 =>
  zlz (zr h p21 i22 5) h fun v30 =>
  zb (zm130 x1 v30 h) fun _ h32 =>
  zlg (zr h32 p21 i22 5) x1 h32 fun v39 =>
  zob 1 v39 fun p41 i42 =>
  if (zi h32 p41 i42 5) = 0 then
    zlet (zsi h32 p41 i42 5 (1 : Int32)) fun h46 =>
    some (.inl (), h46)
  else
    some (.inr 1, zro h32 1 6)
theorem zmS128 {x0 : zq} {x1 : Int32} {h : zH} {r : Unit ⊕ Nat} {h' : zH} (H : zm128 x0 x1 h = some (r, h')) : zAt 128 0 [some (zrv x0), some (zI x1), none] [] h (zoU r) h' := by
  unfold zm128 at H
  refine zA_ldn rfl rfl rfl ?_
  refine zA_aldn rfl rfl rfl ?_
  obtain ⟨p21, i22, e23, c24, H⟩ := zob_e H
  refine zA_gf3 rfl rfl e23 c24 ?_
  obtain ⟨p25, i26, v30, e27, c28, c29, e31, H⟩ := zlz_e H
  refine zA_l2 rfl rfl rfl e27 c28 c29 e31 ?_
  rcases zb_e H with ⟨u48, h32, C, H⟩ | ⟨E, h32, C, H⟩
  · refine zA_callU (as := [zI x1, zI v30]) (st' := []) rfl rfl rfl rfl rfl (zmE130 _ _) rfl (zmS130 C) ?_
    refine zA_aldn rfl rfl rfl ?_
    refine zA_gf3 rfl rfl e23 c24 ?_
    refine zA_ldn rfl rfl rfl ?_
    obtain ⟨p33, i34, v39, e35, c36, c37, c38, e40, H⟩ := zlg_e H
    refine zA_l3 rfl rfl rfl e35 c36 c37 c38 e40 ?_
    obtain ⟨p41, i42, e43, c44, H⟩ := zob_e H
    refine zA_cast rfl rfl e43 c44 ?_
    refine zA_astn2 rfl rfl rfl (zset1 (L' := [some (zrv x0), some (zI x1), some (zrv v39)]) (zcat_rv _) rfl (zpcV rfl rfl)) ?_
    refine zA_aldn rfl rfl rfl ?_
    refine zA_gf0 rfl rfl (Or.inr rfl) e43 c44 ?_
    rcases zite_e H with ⟨c45, H⟩ | ⟨c45, H⟩
    · refine zA_brT (c := (zi h32 p41 i42 5) = 0) rfl rfl rfl c45 ?_
      refine zA_tr (L := [none, none, some (zrv v39)]) rfl rfl ?_
      refine zA_aldn rfl rfl rfl ?_
      refine zA_push rfl rfl zkk5 ?_
      obtain ⟨h46, e47, H⟩ := zlet_e H
      refine zA_pf1 rfl rfl e43 c44 (by decide) e47 ?_
      cases H
      exact zA_ret rfl rfl
    · refine zA_brF (c := (zi h32 p41 i42 5) = 0) rfl rfl rfl c45 ?_
      cases H
      exact zA_thr rfl rfl
  · cases H
    exact zA_callX (as := [zI x1, zI v30]) (st' := []) rfl rfl rfl rfl (zmE130 _ _) rfl rfl rfl (zmS130 C)
theorem zmE128 (x0 : zq) (x1 : Int32) : zpad (zPr.2.1 128).1 (zil [zrv x0, zI x1]) = [some (zrv x0), some (zI x1), none] := by
  simp only [zil_A, zil_I, zil_F, zil_D, zil_N]
  rfl
-- 289: ReleaseHouseLaw.conclude(LReleaseHouse;I)I
def zm289 (x0 : zq) (x1 : Int32) (h : zH) : zRs Int32 :=
  zob 11 x0 fun p21 i22 =>
  zbH [(0, 3, 2, 1), (0, 3, 1, 2)] 2 (zm128 x0 x1 h) fun _ h25 =>
  some (.inl (0 : Int32), h25)
theorem zmS289 {x0 : zq} {x1 : Int32} {h : zH} {r : Int32 ⊕ Nat} {h' : zH} (H : zm289 x0 x1 h = some (r, h')) : zAt 289 0 [some (zrv x0), some (zI x1), none] [] h (zoI r) h' := by
  unfold zm289 at H
  refine zA_aldn rfl rfl rfl ?_
  refine zA_ldn rfl rfl rfl ?_
  obtain ⟨p21, i22, e23, c24, H⟩ := zob_e H
  rcases zbH_e H with ⟨u26, h25, C, H⟩ | ⟨E, h25, c27, C, hc, H⟩
  · refine zA_callU (as := [zrv x0, zI x1]) (st' := []) rfl rfl rfl (zrcv_Q e23 c24) rfl (zmE128 _ _) rfl (zmS128 C) ?_
    refine zA_go rfl rfl ?_
    refine zA_tr (L := [none, none, none]) rfl rfl ?_
    refine zA_push rfl rfl zkk7 ?_
    cases H
    exact zA_ret rfl rfl
  · cases H
    exact zA_callH (as := [zrv x0, zI x1]) (st' := []) rfl rfl (zrcv_Q e23 c24) rfl (zmE128 _ _) rfl rfl rfl (List.cons_ne_nil _ _) hc (zmS128 C)
theorem zmE289 (x0 : zq) (x1 : Int32) : zpad (zPr.2.1 289).1 (zil [zrv x0, zI x1]) = [some (zrv x0), some (zI x1), none] := by
  simp only [zil_A, zil_I, zil_F, zil_D, zil_N]
  rfl
def zm239_19 (x0 : zq) (x1 : Int32) (s0 : zq) (s1 : Int32) (h : zH) : zRs Unit :=
  zob 12 s0 fun p21 i22 =>
  zlet (zsi h p21 i22 0 s1) fun h25 =>
  zob 12 x0 fun p27 i28 =>
  if (zi h25 p27 i28 0) = 0 then
    zar 2 (zr h25 p27 i28 77) x1 h25 fun p32 i33 j34 =>
    zlet (zsi h25 p32 i33 j34 (1 : Int32)) fun h39 =>
    some (.inl (), h39)
  else
    some (.inl (), h25)
theorem zmS239_19 : ∀ (x0 : zq) (x1 : Int32) (s0 : zq) (s1 : Int32) (h : zH) (r : Unit ⊕ Nat) (h' : zH), zm239_19 x0 x1 s0 s1 h = some (r, h') → zAt 239 19 [some (zrv x0), some (zI x1)] [zI s1, zrv s0] h (zoU r) h' := by
  intro x0 x1 s0 s1 h r h' H
  unfold zm239_19 at H
  obtain ⟨p21, i22, e23, c24, H⟩ := zob_e H
  obtain ⟨h25, e26, H⟩ := zlet_e H
  refine zA_pf0 rfl rfl e23 c24 e26 ?_
  refine zA_aldn rfl rfl rfl ?_
  obtain ⟨p27, i28, e29, c30, H⟩ := zob_e H
  refine zA_gf0 rfl rfl (Or.inl rfl) e29 c30 ?_
  rcases zite_e H with ⟨c31, H⟩ | ⟨c31, H⟩
  · refine zA_brF' (c := (zi h25 p27 i28 0) = 0) rfl rfl rfl c31 ?_
    refine zA_aldn rfl rfl rfl ?_
    refine zA_gf3 rfl rfl e29 c30 ?_
    refine zA_ldn rfl rfl rfl ?_
    refine zA_push rfl rfl zkk5 ?_
    obtain ⟨p32, i33, j34, e35, c36, c37, e38, H⟩ := zar_e H
    obtain ⟨h39, e40, H⟩ := zlet_e H
    refine zA_bas rfl rfl e35 c36 c37 e38 (by decide) e40 ?_
    refine zA_tr (L := [none, none]) rfl rfl ?_
    cases H
    exact zA_ret rfl rfl
  · refine zA_brT' (c := (zi h25 p27 i28 0) = 0) rfl rfl rfl c31 ?_
    refine zA_tr (L := [none, none]) rfl rfl ?_
    cases H
    exact zA_ret rfl rfl
-- 239: ReleaseHouseModel.conclude(I)V
def zm239 (x0 : zq) (x1 : Int32) (h : zH) : zRs Unit :=
  zob 12 x0 fun p21 i22 =>
  zb (zm139 x1 (0 : Int32) ((zi h p21 i22 71) - (1 : Int32)) h) fun x26 h25 =>
  if x26 = 0 then
    zm239_19 x0 x1 x0 (1 : Int32) h25
  else
    zrb (zr h25 p21 i22 77) x1 h25 fun v35 =>
    if v35 = 0 then
      zm239_19 x0 x1 x0 (0 : Int32) h25
    else
      zm239_19 x0 x1 x0 (2 : Int32) h25
theorem zmS239 {x0 : zq} {x1 : Int32} {h : zH} {r : Unit ⊕ Nat} {h' : zH} (H : zm239 x0 x1 h = some (r, h')) : zAt 239 0 [some (zrv x0), some (zI x1)] [] h (zoU r) h' := by
  unfold zm239 at H
  refine zA_aldn rfl rfl rfl ?_
  refine zA_ldn rfl rfl rfl ?_
  refine zA_push rfl rfl zkk7 ?_
  refine zA_aldn rfl rfl rfl ?_
  obtain ⟨p21, i22, e23, c24, H⟩ := zob_e H
  refine zA_gf0 rfl rfl (Or.inl rfl) e23 c24 ?_
  refine zA_push rfl rfl zkk5 ?_
  refine zA_st (st' := [zI ((zi h p21 i22 71) - (1 : Int32)), zI (0 : Int32), zI x1, zrv x0]) rfl rfl rfl rfl ?_
  rcases zb_e H with ⟨x26, h25, C, H⟩ | ⟨E, h25, C, H⟩
  · refine zA_callV (as := [zI x1, zI (0 : Int32), zI ((zi h p21 i22 71) - (1 : Int32))]) (st' := [zrv x0]) rfl rfl rfl rfl rfl (zmE139 _ _ _) rfl (zmS139 C) ?_
    rcases zite_e H with ⟨c27, H⟩ | ⟨c27, H⟩
    · refine zA_brF' (c := x26 = 0) rfl rfl rfl c27 ?_
      refine zA_push rfl rfl zkk5 ?_
      refine zA_go rfl rfl ?_
      exact zA_tr (L := [some (zrv x0), some (zI x1)]) rfl rfl (zmS239_19 _ _ _ _ _ _ _ H)
    · refine zA_brT' (c := x26 = 0) rfl rfl rfl c27 ?_
      refine zA_aldn rfl rfl rfl ?_
      refine zA_gf3 rfl rfl e23 c24 ?_
      refine zA_ldn rfl rfl rfl ?_
      obtain ⟨p28, i29, j30, v35, e31, c32, c33, e34, e36, H⟩ := zrb_e H
      refine zA_bal rfl rfl e31 c32 c33 e34 e36 ?_
      rcases zite_e H with ⟨c37, H⟩ | ⟨c37, H⟩
      · refine zA_brT (c := v35 = 0) rfl rfl rfl c37 ?_
        refine zA_push rfl rfl zkk7 ?_
        exact zA_tr (L := [some (zrv x0), some (zI x1)]) rfl rfl (zmS239_19 _ _ _ _ _ _ _ H)
      · refine zA_brF (c := v35 = 0) rfl rfl rfl c37 ?_
        refine zA_push rfl rfl zkk23 ?_
        refine zA_go rfl rfl ?_
        exact zA_tr (L := [some (zrv x0), some (zI x1)]) rfl rfl (zmS239_19 _ _ _ _ _ _ _ H)
  · cases H
    exact zA_callX (as := [zI x1, zI (0 : Int32), zI ((zi h p21 i22 71) - (1 : Int32))]) (st' := [zrv x0]) rfl rfl rfl rfl (zmE139 _ _ _) rfl rfl rfl (zmS139 C)
theorem zmE239 (x0 : zq) (x1 : Int32) : zpad (zPr.2.1 239).1 (zil [zrv x0, zI x1]) = [some (zrv x0), some (zI x1)] := by
  simp only [zil_A, zil_I, zil_F, zil_D, zil_N]
  rfl
-- 3: ReleaseHouse$Experiment.armOf(I)I
def zm3 (x0 : zq) (x1 : Int32) (h : zH) : zRs Int32 :=
  zob 1 x0 fun p21 i22 =>
  if (zi h p21 i22 4) ≤ 0 then
    some (.inl (-1 : Int32), h)
  else
    zif ((zi h p21 i22 4) ≠ 0) <|
    some (.inl ((x1 - (zi h p21 i22 2)) - (x1 - (zi h p21 i22 2)) / (zi h p21 i22 4) * (zi h p21 i22 4)), h)
theorem zmS3 {x0 : zq} {x1 : Int32} {h : zH} {r : Int32 ⊕ Nat} {h' : zH} (H : zm3 x0 x1 h = some (r, h')) : zAt 3 0 [some (zrv x0), some (zI x1)] [] h (zoI r) h' := by
  unfold zm3 at H
  refine zA_aldn rfl rfl rfl ?_
  obtain ⟨p21, i22, e23, c24, H⟩ := zob_e H
  refine zA_gf0 rfl rfl (Or.inl rfl) e23 c24 ?_
  rcases zite_e H with ⟨c25, H⟩ | ⟨c25, H⟩
  · refine zA_brT (c := (zi h p21 i22 4) ≤ 0) rfl rfl rfl c25 ?_
    refine zA_tr (L := [none, none]) rfl rfl ?_
    refine zA_push rfl rfl zkk6 ?_
    cases H
    exact zA_ret rfl rfl
  · refine zA_brF (c := (zi h p21 i22 4) ≤ 0) rfl rfl rfl c25 ?_
    refine zA_ldn rfl rfl rfl ?_
    refine zA_aldn rfl rfl rfl ?_
    refine zA_gf0 rfl rfl (Or.inl rfl) e23 c24 ?_
    refine zA_st (st' := [zI (x1 - (zi h p21 i22 2))]) rfl rfl rfl rfl ?_
    refine zA_aldn rfl rfl rfl ?_
    refine zA_gf0 rfl rfl (Or.inl rfl) e23 c24 ?_
    obtain ⟨c26, H⟩ := zif_e H
    refine zA_rem rfl rfl c26 ?_
    refine zA_go rfl rfl ?_
    refine zA_tr (L := [none, none]) rfl rfl ?_
    cases H
    exact zA_ret rfl rfl
theorem zmE3 (x0 : zq) (x1 : Int32) : zpad (zPr.2.1 3).1 (zil [zrv x0, zI x1]) = [some (zrv x0), some (zI x1)] := by
  simp only [zil_A, zil_I, zil_F, zil_D, zil_N]
  rfl
-- 129: ReleaseHouse.arm(II)I
def zm129 (x0 : zq) (x1 : Int32) (x2 : Int32) (h : zH) : zRs Int32 :=
  zob 11 x0 fun p21 i22 =>
  zlz (zr h p21 i22 5) h fun v30 =>
  zb (zm130 x1 v30 h) fun _ h32 =>
  zb (zm131 x2 (0 : Int32) (199 : Int32) h32) fun _ h33 =>
  zlg (zr h33 p21 i22 5) x1 h33 fun v40 =>
  zob 1 v40 fun p42 i43 =>
  zlet ((((61 : Int32) * x2) + ((17 : Int32) * (zi h33 p42 i43 0))) - (((61 : Int32) * x2) + ((17 : Int32) * (zi h33 p42 i43 0))) / (100 : Int32) * (100 : Int32)) fun x47 =>
  if (zi h33 p42 i43 5) = 0 then
    if x47 < (zi h33 p42 i43 2) then
      some (.inl (-1 : Int32), h33)
    else
      if (zi h33 p42 i43 3) < x47 then
        some (.inl (-1 : Int32), h33)
      else
        zb (zm121 x0 (zi h33 p42 i43 1) x2 h33) fun x53 h52 =>
        if x53 = 0 then
          some (.inl (-1 : Int32), h52)
        else
          zb (zm3 v40 x47 h52) fun x56 h55 =>
          some (.inl x56, h55)
  else
    some (.inl (-1 : Int32), h33)
theorem zmS129 {x0 : zq} {x1 : Int32} {x2 : Int32} {h : zH} {r : Int32 ⊕ Nat} {h' : zH} (H : zm129 x0 x1 x2 h = some (r, h')) : zAt 129 0 [some (zrv x0), some (zI x1), some (zI x2), none, none] [] h (zoI r) h' := by
  unfold zm129 at H
  refine zA_ldn rfl rfl rfl ?_
  refine zA_aldn rfl rfl rfl ?_
  obtain ⟨p21, i22, e23, c24, H⟩ := zob_e H
  refine zA_gf3 rfl rfl e23 c24 ?_
  obtain ⟨p25, i26, v30, e27, c28, c29, e31, H⟩ := zlz_e H
  refine zA_l2 rfl rfl rfl e27 c28 c29 e31 ?_
  rcases zb_e H with ⟨u58, h32, C, H⟩ | ⟨E, h32, C, H⟩
  · refine zA_callU (as := [zI x1, zI v30]) (st' := []) rfl rfl rfl rfl rfl (zmE130 _ _) rfl (zmS130 C) ?_
    refine zA_ldn rfl rfl rfl ?_
    refine zA_push rfl rfl zkk7 ?_
    refine zA_push rfl rfl zkk48 ?_
    rcases zb_e H with ⟨u57, h33, C, H⟩ | ⟨E, h33, C, H⟩
    · refine zA_callU (as := [zI x2, zI (0 : Int32), zI (199 : Int32)]) (st' := []) rfl rfl rfl rfl rfl (zmE131 _ _ _) rfl (zmS131 C) ?_
      refine zA_aldn rfl rfl rfl ?_
      refine zA_gf3 rfl rfl e23 c24 ?_
      refine zA_ldn rfl rfl rfl ?_
      obtain ⟨p34, i35, v40, e36, c37, c38, c39, e41, H⟩ := zlg_e H
      refine zA_l3 rfl rfl rfl e36 c37 c38 c39 e41 ?_
      obtain ⟨p42, i43, e44, c45, H⟩ := zob_e H
      refine zA_cast rfl rfl e44 c45 ?_
      refine zA_astn2 rfl rfl rfl (zset1 (L' := [some (zrv x0), some (zI x1), some (zI x2), some (zrv v40), none]) (zcat_rv _) rfl (zpcV rfl rfl)) ?_
      refine zA_push rfl rfl zkk61 ?_
      refine zA_ldn rfl rfl rfl ?_
      refine zA_st (st' := [zI ((61 : Int32) * x2)]) rfl rfl rfl rfl ?_
      refine zA_push rfl rfl zkk1 ?_
      refine zA_aldn rfl rfl rfl ?_
      refine zA_gf0 rfl rfl (Or.inl rfl) e44 c45 ?_
      refine zA_st (st' := [zI ((17 : Int32) * (zi h33 p42 i43 0)), zI ((61 : Int32) * x2)]) rfl rfl rfl rfl ?_
      refine zA_st (st' := [zI (((61 : Int32) * x2) + ((17 : Int32) * (zi h33 p42 i43 0)))]) rfl rfl rfl rfl ?_
      refine zA_push rfl rfl zkk29 ?_
      refine zA_rem rfl rfl (by decide) ?_
      obtain ⟨x47, e48, H⟩ := zlet_e H
      refine zA_ist2 rfl rfl e48 (zset1 (L' := [some (zrv x0), some (zI x1), some (zI x2), some (zrv v40), some (zI x47)]) rfl rfl (zpcV rfl (zcat_rv _))) ?_
      refine zA_aldn rfl rfl rfl ?_
      refine zA_gf0 rfl rfl (Or.inr rfl) e44 c45 ?_
      rcases zite_e H with ⟨c49, H⟩ | ⟨c49, H⟩
      · refine zA_brF' (c := (zi h33 p42 i43 5) = 0) rfl rfl rfl c49 ?_
        refine zA_ld rfl rfl rfl ?_
        refine zA_aldn rfl rfl rfl ?_
        refine zA_gf0 rfl rfl (Or.inl rfl) e44 c45 ?_
        rcases zite_e H with ⟨c50, H⟩ | ⟨c50, H⟩
        · refine zA_brT (c := x47 < (zi h33 p42 i43 2)) rfl rfl rfl c50 ?_
          refine zA_tr (L := [none, none, none, none, none]) rfl rfl ?_
          refine zA_push rfl rfl zkk6 ?_
          cases H
          exact zA_ret rfl rfl
        · refine zA_brF (c := x47 < (zi h33 p42 i43 2)) rfl rfl rfl c50 ?_
          refine zA_ld rfl rfl rfl ?_
          refine zA_aldn rfl rfl rfl ?_
          refine zA_gf0 rfl rfl (Or.inl rfl) e44 c45 ?_
          rcases zite_e H with ⟨c51, H⟩ | ⟨c51, H⟩
          · refine zA_brT (c := (zi h33 p42 i43 3) < x47) rfl rfl rfl c51 ?_
            refine zA_tr (L := [none, none, none, none, none]) rfl rfl ?_
            refine zA_push rfl rfl zkk6 ?_
            cases H
            exact zA_ret rfl rfl
          · refine zA_brF (c := (zi h33 p42 i43 3) < x47) rfl rfl rfl c51 ?_
            refine zA_aldn rfl rfl rfl ?_
            refine zA_aldn rfl rfl rfl ?_
            refine zA_gf0 rfl rfl (Or.inl rfl) e44 c45 ?_
            refine zA_ldn rfl rfl rfl ?_
            rcases zb_e H with ⟨x53, h52, C, H⟩ | ⟨E, h52, C, H⟩
            · refine zA_callV (as := [zrv x0, zI (zi h33 p42 i43 1), zI x2]) (st' := []) rfl rfl rfl (zrcv_Q e23 c24) rfl (zmE121 _ _ _) rfl (zmS121 C) ?_
              rcases zite_e H with ⟨c54, H⟩ | ⟨c54, H⟩
              · refine zA_brF' (c := x53 = 0) rfl rfl rfl c54 ?_
                refine zA_tr (L := [none, none, none, none, none]) rfl rfl ?_
                refine zA_push rfl rfl zkk6 ?_
                cases H
                exact zA_ret rfl rfl
              · refine zA_brT' (c := x53 = 0) rfl rfl rfl c54 ?_
                refine zA_tr (L := [none, none, none, some (zrv v40), some (zI x47)]) rfl rfl ?_
                refine zA_aldn rfl rfl rfl ?_
                refine zA_ld rfl rfl rfl ?_
                rcases zb_e H with ⟨x56, h55, C, H⟩ | ⟨E, h55, C, H⟩
                · refine zA_callV (as := [zrv v40, zI x47]) (st' := []) rfl rfl rfl (zrcv_Q e44 c45) rfl (zmE3 _ _) rfl (zmS3 C) ?_
                  cases H
                  exact zA_ret rfl rfl
                · cases H
                  exact zA_callX (as := [zrv v40, zI x47]) (st' := []) rfl rfl (zrcv_Q e44 c45) rfl (zmE3 _ _) rfl rfl rfl (zmS3 C)
            · cases H
              exact zA_callX (as := [zrv x0, zI (zi h33 p42 i43 1), zI x2]) (st' := []) rfl rfl (zrcv_Q e23 c24) rfl (zmE121 _ _ _) rfl rfl rfl (zmS121 C)
      · refine zA_brT' (c := (zi h33 p42 i43 5) = 0) rfl rfl rfl c49 ?_
        refine zA_tr (L := [none, none, none, none, none]) rfl rfl ?_
        refine zA_push rfl rfl zkk6 ?_
        cases H
        exact zA_ret rfl rfl
    · cases H
      exact zA_callX (as := [zI x2, zI (0 : Int32), zI (199 : Int32)]) (st' := []) rfl rfl rfl rfl (zmE131 _ _ _) rfl rfl rfl (zmS131 C)
  · cases H
    exact zA_callX (as := [zI x1, zI v30]) (st' := []) rfl rfl rfl rfl (zmE130 _ _) rfl rfl rfl (zmS130 C)
theorem zmE129 (x0 : zq) (x1 : Int32) (x2 : Int32) : zpad (zPr.2.1 129).1 (zil [zrv x0, zI x1, zI x2]) = [some (zrv x0), some (zI x1), some (zI x2), none, none] := by
  simp only [zil_A, zil_I, zil_F, zil_D, zil_N]
  rfl
-- 290: ReleaseHouseLaw.arm(LReleaseHouse;II[J)I
def zm290 (x0 : zq) (x1 : Int32) (x2 : Int32) (x3 : zq) (h : zH) : zRs Int32 :=
  zob 11 x0 fun p21 i22 =>
  zbH [(0, 8, 2, 1), (0, 8, 0, 2)] 5 (zm129 x0 x1 x2 h) fun x26 h25 =>
  zar 3 x3 (0 : Int32) h25 fun p27 i28 j29 =>
  zlet (zsl h25 p27 i28 j29 (x26.toInt64)) fun h34 =>
  some (.inl (0 : Int32), h34)
theorem zmS290 {x0 : zq} {x1 : Int32} {x2 : Int32} {x3 : zq} {h : zH} {r : Int32 ⊕ Nat} {h' : zH} (H : zm290 x0 x1 x2 x3 h = some (r, h')) : zAt 290 0 [some (zrv x0), some (zI x1), some (zI x2), some (zrv x3), none] [] h (zoI r) h' := by
  unfold zm290 at H
  refine zA_aldn rfl rfl rfl ?_
  refine zA_push rfl rfl zkk7 ?_
  refine zA_aldn rfl rfl rfl ?_
  refine zA_ldn rfl rfl rfl ?_
  refine zA_ldn rfl rfl rfl ?_
  obtain ⟨p21, i22, e23, c24, H⟩ := zob_e H
  rcases zbH_e H with ⟨x26, h25, C, H⟩ | ⟨E, h25, c36, C, hc, H⟩
  · refine zA_callV (as := [zrv x0, zI x1, zI x2]) (st' := [zI (0 : Int32), zrv x3]) rfl rfl rfl (zrcv_Q e23 c24) rfl (zmE129 _ _ _) rfl (zmS129 C) ?_
    refine zA_st (st' := [zJ (x26.toInt64), zI (0 : Int32), zrv x3]) rfl rfl rfl rfl ?_
    obtain ⟨p27, i28, j29, e30, c31, c32, e33, H⟩ := zar_e H
    obtain ⟨h34, e35, H⟩ := zlet_e H
    refine zA_las rfl rfl e30 c31 c32 e33 e35 ?_
    refine zA_go rfl rfl ?_
    refine zA_tr (L := [none, none, none, none, none]) rfl rfl ?_
    refine zA_push rfl rfl zkk7 ?_
    cases H
    exact zA_ret rfl rfl
  · cases H
    exact zA_callH (as := [zrv x0, zI x1, zI x2]) (st' := [zI (0 : Int32), zrv x3]) rfl rfl (zrcv_Q e23 c24) rfl (zmE129 _ _ _) rfl rfl rfl (List.cons_ne_nil _ _) hc (zmS129 C)
theorem zmE290 (x0 : zq) (x1 : Int32) (x2 : Int32) (x3 : zq) : zpad (zPr.2.1 290).1 (zil [zrv x0, zI x1, zI x2, zrv x3]) = [some (zrv x0), some (zI x1), some (zI x2), some (zrv x3), none] := by
  simp only [zil_A, zil_I, zil_F, zil_D, zil_N]
  rfl
def zm240_65 (x0 : zq) (x1 : Int32) (x3 : Int32) (s0 : Int32) (h : zH) : zRs Int32 :=
  if s0 = 0 then
    some (.inl (-1 : Int32), h)
  else
    zob 12 x0 fun p22 i23 =>
    zri (zr h p22 i23 74) x1 h fun v33 =>
    zri (zr h p22 i23 76) x1 h fun v42 =>
    zif (v42 ≠ 0) <|
    some (.inl ((x3 - v33) - (x3 - v33) / v42 * v42), h)
theorem zmS240_65 : ∀ (x0 : zq) (x1 : Int32) (x3 : Int32) (s0 : Int32) (h : zH) (r : Int32 ⊕ Nat) (h' : zH), zm240_65 x0 x1 x3 s0 h = some (r, h') → zAt 240 65 [some (zrv x0), some (zI x1), none, some (zI x3), none] [zI s0] h (zoI r) h' := by
  intro x0 x1 x3 s0 h r h' H
  unfold zm240_65 at H
  refine zA_ist2 rfl rfl rfl (zset1 (L' := [some (zrv x0), some (zI x1), none, some (zI x3), some (zI s0)]) rfl rfl (zpcV rfl rfl)) ?_
  refine zA_ld rfl rfl rfl ?_
  rcases zite_e H with ⟨c21, H⟩ | ⟨c21, H⟩
  · refine zA_brT (c := s0 = 0) rfl rfl rfl c21 ?_
    refine zA_tr (L := [none, none, none, none, none]) rfl rfl ?_
    refine zA_push rfl rfl zkk6 ?_
    cases H
    exact zA_ret rfl rfl
  · refine zA_brF (c := s0 = 0) rfl rfl rfl c21 ?_
    refine zA_ldn rfl rfl rfl ?_
    refine zA_aldn rfl rfl rfl ?_
    obtain ⟨p22, i23, e24, c25, H⟩ := zob_e H
    refine zA_gf3 rfl rfl e24 c25 ?_
    refine zA_ldn rfl rfl rfl ?_
    obtain ⟨p26, i27, j28, v33, e29, c30, c31, e32, e34, H⟩ := zri_e H
    refine zA_ial rfl rfl e29 c30 c31 e32 e34 ?_
    refine zA_st (st' := [zI (x3 - v33)]) rfl rfl rfl rfl ?_
    refine zA_aldn rfl rfl rfl ?_
    refine zA_gf3 rfl rfl e24 c25 ?_
    refine zA_ldn rfl rfl rfl ?_
    obtain ⟨p35, i36, j37, v42, e38, c39, c40, e41, e43, H⟩ := zri_e H
    refine zA_ial rfl rfl e38 c39 c40 e41 e43 ?_
    obtain ⟨c44, H⟩ := zif_e H
    refine zA_rem rfl rfl c44 ?_
    refine zA_go rfl rfl ?_
    refine zA_tr (L := [none, none, none, none, none]) rfl rfl ?_
    cases H
    exact zA_ret rfl rfl
def zm240_19 (x0 : zq) (x1 : Int32) (x2 : Int32) (s0 : zq) (s1 : Int32) (h : zH) : zRs Int32 :=
  zob 12 s0 fun p21 i22 =>
  zlet (zsi h p21 i22 0 s1) fun h25 =>
  zob 12 x0 fun p27 i28 =>
  if (zi h25 p27 i28 0) ≤ 0 then
    zri (zr h25 p27 i28 72) x1 h25 fun v39 =>
    zlet ((((61 : Int32) * x2) + ((17 : Int32) * v39)) - (((61 : Int32) * x2) + ((17 : Int32) * v39)) / (100 : Int32) * (100 : Int32)) fun x42 =>
    zrb (zr h25 p27 i28 77) x1 h25 fun v51 =>
    if v51 = 0 then
      zri (zr h25 p27 i28 74) x1 h25 fun v61 =>
      zri (zr h25 p27 i28 75) x1 h25 fun v70 =>
      zb (zm139 x42 v61 v70 h25) fun x73 h72 =>
      if x73 = 0 then
        zm240_65 x0 x1 x42 (0 : Int32) h72
      else
        zri (zr h72 p27 i28 73) x1 h72 fun v82 =>
        zb (zm235 x0 v82 x2 h72) fun x85 h84 =>
        if x85 = 0 then
          zm240_65 x0 x1 x42 (0 : Int32) h84
        else
          zm240_65 x0 x1 x42 (1 : Int32) h84
    else
      zm240_65 x0 x1 x42 (0 : Int32) h25
  else
    some (.inl (0 : Int32), h25)
theorem zmS240_19 : ∀ (x0 : zq) (x1 : Int32) (x2 : Int32) (s0 : zq) (s1 : Int32) (h : zH) (r : Int32 ⊕ Nat) (h' : zH), zm240_19 x0 x1 x2 s0 s1 h = some (r, h') → zAt 240 19 [some (zrv x0), some (zI x1), some (zI x2), none, none] [zI s1, zrv s0] h (zoI r) h' := by
  intro x0 x1 x2 s0 s1 h r h' H
  unfold zm240_19 at H
  obtain ⟨p21, i22, e23, c24, H⟩ := zob_e H
  obtain ⟨h25, e26, H⟩ := zlet_e H
  refine zA_pf0 rfl rfl e23 c24 e26 ?_
  refine zA_aldn rfl rfl rfl ?_
  obtain ⟨p27, i28, e29, c30, H⟩ := zob_e H
  refine zA_gf0 rfl rfl (Or.inl rfl) e29 c30 ?_
  rcases zite_e H with ⟨c31, H⟩ | ⟨c31, H⟩
  · refine zA_brT (c := (zi h25 p27 i28 0) ≤ 0) rfl rfl rfl c31 ?_
    refine zA_push rfl rfl zkk61 ?_
    refine zA_ldn rfl rfl rfl ?_
    refine zA_st (st' := [zI ((61 : Int32) * x2)]) rfl rfl rfl rfl ?_
    refine zA_push rfl rfl zkk1 ?_
    refine zA_aldn rfl rfl rfl ?_
    refine zA_gf3 rfl rfl e29 c30 ?_
    refine zA_ldn rfl rfl rfl ?_
    obtain ⟨p32, i33, j34, v39, e35, c36, c37, e38, e40, H⟩ := zri_e H
    refine zA_ial rfl rfl e35 c36 c37 e38 e40 ?_
    refine zA_st (st' := [zI ((17 : Int32) * v39), zI ((61 : Int32) * x2)]) rfl rfl rfl rfl ?_
    refine zA_st (st' := [zI (((61 : Int32) * x2) + ((17 : Int32) * v39))]) rfl rfl rfl rfl ?_
    refine zA_push rfl rfl zkk29 ?_
    refine zA_rem rfl rfl (by decide) ?_
    obtain ⟨x42, e43, H⟩ := zlet_e H
    refine zA_istn2 rfl rfl e43 (zset1 (L' := [some (zrv x0), some (zI x1), some (zI x2), some (zI x42), none]) rfl rfl (zpcV rfl rfl)) ?_
    refine zA_aldn rfl rfl rfl ?_
    refine zA_gf3 rfl rfl e29 c30 ?_
    refine zA_ldn rfl rfl rfl ?_
    obtain ⟨p44, i45, j46, v51, e47, c48, c49, e50, e52, H⟩ := zrb_e H
    refine zA_bal rfl rfl e47 c48 c49 e50 e52 ?_
    rcases zite_e H with ⟨c53, H⟩ | ⟨c53, H⟩
    · refine zA_brF' (c := v51 = 0) rfl rfl rfl c53 ?_
      refine zA_ldn rfl rfl rfl ?_
      refine zA_aldn rfl rfl rfl ?_
      refine zA_gf3 rfl rfl e29 c30 ?_
      refine zA_ldn rfl rfl rfl ?_
      obtain ⟨p54, i55, j56, v61, e57, c58, c59, e60, e62, H⟩ := zri_e H
      refine zA_ial rfl rfl e57 c58 c59 e60 e62 ?_
      refine zA_aldn rfl rfl rfl ?_
      refine zA_gf3 rfl rfl e29 c30 ?_
      refine zA_ldn rfl rfl rfl ?_
      obtain ⟨p63, i64, j65, v70, e66, c67, c68, e69, e71, H⟩ := zri_e H
      refine zA_ial rfl rfl e66 c67 c68 e69 e71 ?_
      rcases zb_e H with ⟨x73, h72, C, H⟩ | ⟨E, h72, C, H⟩
      · refine zA_callV (as := [zI x42, zI v61, zI v70]) (st' := []) rfl rfl rfl rfl rfl (zmE139 _ _ _) rfl (zmS139 C) ?_
        rcases zite_e H with ⟨c74, H⟩ | ⟨c74, H⟩
        · refine zA_brT (c := x73 = 0) rfl rfl rfl c74 ?_
          refine zA_tr (L := [some (zrv x0), some (zI x1), none, some (zI x42), none]) rfl rfl ?_
          refine zA_push rfl rfl zkk7 ?_
          exact zA_tr (L := [some (zrv x0), some (zI x1), none, some (zI x42), none]) rfl rfl (zmS240_65 _ _ _ _ _ _ _ H)
        · refine zA_brF (c := x73 = 0) rfl rfl rfl c74 ?_
          refine zA_aldn rfl rfl rfl ?_
          refine zA_aldn rfl rfl rfl ?_
          refine zA_gf3 rfl rfl e29 c30 ?_
          refine zA_ldn rfl rfl rfl ?_
          obtain ⟨p75, i76, j77, v82, e78, c79, c80, e81, e83, H⟩ := zri_e H
          refine zA_ial rfl rfl e78 c79 c80 e81 e83 ?_
          refine zA_ldn rfl rfl rfl ?_
          rcases zb_e H with ⟨x85, h84, C, H⟩ | ⟨E, h84, C, H⟩
          · refine zA_callV (as := [zrv x0, zI v82, zI x2]) (st' := []) rfl rfl rfl (zrcv_Q e29 c30) rfl (zmE235 _ _ _) rfl (zmS235 C) ?_
            rcases zite_e H with ⟨c86, H⟩ | ⟨c86, H⟩
            · refine zA_brT (c := x85 = 0) rfl rfl rfl c86 ?_
              refine zA_tr (L := [some (zrv x0), some (zI x1), none, some (zI x42), none]) rfl rfl ?_
              refine zA_push rfl rfl zkk7 ?_
              exact zA_tr (L := [some (zrv x0), some (zI x1), none, some (zI x42), none]) rfl rfl (zmS240_65 _ _ _ _ _ _ _ H)
            · refine zA_brF (c := x85 = 0) rfl rfl rfl c86 ?_
              refine zA_push rfl rfl zkk5 ?_
              refine zA_go rfl rfl ?_
              exact zA_tr (L := [some (zrv x0), some (zI x1), none, some (zI x42), none]) rfl rfl (zmS240_65 _ _ _ _ _ _ _ H)
          · cases H
            exact zA_callX (as := [zrv x0, zI v82, zI x2]) (st' := []) rfl rfl (zrcv_Q e29 c30) rfl (zmE235 _ _ _) rfl rfl rfl (zmS235 C)
      · cases H
        exact zA_callX (as := [zI x42, zI v61, zI v70]) (st' := []) rfl rfl rfl rfl (zmE139 _ _ _) rfl rfl rfl (zmS139 C)
    · refine zA_brT' (c := v51 = 0) rfl rfl rfl c53 ?_
      refine zA_tr (L := [some (zrv x0), some (zI x1), none, some (zI x42), none]) rfl rfl ?_
      refine zA_push rfl rfl zkk7 ?_
      exact zA_tr (L := [some (zrv x0), some (zI x1), none, some (zI x42), none]) rfl rfl (zmS240_65 _ _ _ _ _ _ _ H)
  · refine zA_brF (c := (zi h25 p27 i28 0) ≤ 0) rfl rfl rfl c31 ?_
    refine zA_push rfl rfl zkk7 ?_
    cases H
    exact zA_ret rfl rfl
-- 240: ReleaseHouseModel.arm(II)I
def zm240 (x0 : zq) (x1 : Int32) (x2 : Int32) (h : zH) : zRs Int32 :=
  zob 12 x0 fun p21 i22 =>
  zb (zm139 x1 (0 : Int32) ((zi h p21 i22 71) - (1 : Int32)) h) fun x26 h25 =>
  if x26 = 0 then
    zm240_19 x0 x1 x2 x0 (1 : Int32) h25
  else
    zb (zm139 x2 (0 : Int32) (199 : Int32) h25) fun x29 h28 =>
    if x29 = 0 then
      zm240_19 x0 x1 x2 x0 (2 : Int32) h28
    else
      zm240_19 x0 x1 x2 x0 (0 : Int32) h28
theorem zmS240 {x0 : zq} {x1 : Int32} {x2 : Int32} {h : zH} {r : Int32 ⊕ Nat} {h' : zH} (H : zm240 x0 x1 x2 h = some (r, h')) : zAt 240 0 [some (zrv x0), some (zI x1), some (zI x2), none, none] [] h (zoI r) h' := by
  unfold zm240 at H
  refine zA_aldn rfl rfl rfl ?_
  refine zA_ldn rfl rfl rfl ?_
  refine zA_push rfl rfl zkk7 ?_
  refine zA_aldn rfl rfl rfl ?_
  obtain ⟨p21, i22, e23, c24, H⟩ := zob_e H
  refine zA_gf0 rfl rfl (Or.inl rfl) e23 c24 ?_
  refine zA_push rfl rfl zkk5 ?_
  refine zA_st (st' := [zI ((zi h p21 i22 71) - (1 : Int32)), zI (0 : Int32), zI x1, zrv x0]) rfl rfl rfl rfl ?_
  rcases zb_e H with ⟨x26, h25, C, H⟩ | ⟨E, h25, C, H⟩
  · refine zA_callV (as := [zI x1, zI (0 : Int32), zI ((zi h p21 i22 71) - (1 : Int32))]) (st' := [zrv x0]) rfl rfl rfl rfl rfl (zmE139 _ _ _) rfl (zmS139 C) ?_
    rcases zite_e H with ⟨c27, H⟩ | ⟨c27, H⟩
    · refine zA_brF' (c := x26 = 0) rfl rfl rfl c27 ?_
      refine zA_push rfl rfl zkk5 ?_
      refine zA_go rfl rfl ?_
      exact zA_tr (L := [some (zrv x0), some (zI x1), some (zI x2), none, none]) rfl rfl (zmS240_19 _ _ _ _ _ _ _ _ H)
    · refine zA_brT' (c := x26 = 0) rfl rfl rfl c27 ?_
      refine zA_ldn rfl rfl rfl ?_
      refine zA_push rfl rfl zkk7 ?_
      refine zA_push rfl rfl zkk48 ?_
      rcases zb_e H with ⟨x29, h28, C, H⟩ | ⟨E, h28, C, H⟩
      · refine zA_callV (as := [zI x2, zI (0 : Int32), zI (199 : Int32)]) (st' := [zrv x0]) rfl rfl rfl rfl rfl (zmE139 _ _ _) rfl (zmS139 C) ?_
        rcases zite_e H with ⟨c30, H⟩ | ⟨c30, H⟩
        · refine zA_brT (c := x29 = 0) rfl rfl rfl c30 ?_
          refine zA_push rfl rfl zkk23 ?_
          exact zA_tr (L := [some (zrv x0), some (zI x1), some (zI x2), none, none]) rfl rfl (zmS240_19 _ _ _ _ _ _ _ _ H)
        · refine zA_brF (c := x29 = 0) rfl rfl rfl c30 ?_
          refine zA_push rfl rfl zkk7 ?_
          refine zA_go rfl rfl ?_
          exact zA_tr (L := [some (zrv x0), some (zI x1), some (zI x2), none, none]) rfl rfl (zmS240_19 _ _ _ _ _ _ _ _ H)
      · cases H
        exact zA_callX (as := [zI x2, zI (0 : Int32), zI (199 : Int32)]) (st' := [zrv x0]) rfl rfl rfl rfl (zmE139 _ _ _) rfl rfl rfl (zmS139 C)
  · cases H
    exact zA_callX (as := [zI x1, zI (0 : Int32), zI ((zi h p21 i22 71) - (1 : Int32))]) (st' := [zrv x0]) rfl rfl rfl rfl (zmE139 _ _ _) rfl rfl rfl (zmS139 C)
theorem zmE240 (x0 : zq) (x1 : Int32) (x2 : Int32) : zpad (zPr.2.1 240).1 (zil [zrv x0, zI x1, zI x2]) = [some (zrv x0), some (zI x1), some (zI x2), none, none] := by
  simp only [zil_A, zil_I, zil_F, zil_D, zil_N]
  rfl
def zm291_2349 (k16 : zq → zq → zq → zq → zq → Int32 → zH → zRs Int32) (x0 : zq) (x1 : zq) (x2 : zq) (x3 : zq) (x4 : zq) (x5 : Int32) (h : zH) : zRs Int32 :=
  zlet (x5 + (10 : Int32)) fun x21 =>
  k16 x0 x1 x2 x3 x4 x21 h
theorem zmS291_2349 {k16 : zq → zq → zq → zq → zq → Int32 → zH → zRs Int32} (hk16 : ∀ (x0 : zq) (x1 : zq) (x2 : zq) (x3 : zq) (x4 : zq) (x5 : Int32) (h : zH) (r : Int32 ⊕ Nat) (h' : zH), k16 x0 x1 x2 x3 x4 x5 h = some (r, h') → zAt 291 16 [some (zrv x0), some (zrv x1), some (zrv x2), some (zrv x3), some (zrv x4), some (zI x5), none, none, none] [] h (zoI r) h') : ∀ (x0 : zq) (x1 : zq) (x2 : zq) (x3 : zq) (x4 : zq) (x5 : Int32) (h : zH) (r : Int32 ⊕ Nat) (h' : zH), zm291_2349 k16 x0 x1 x2 x3 x4 x5 h = some (r, h') → zAt 291 2349 [some (zrv x0), some (zrv x1), some (zrv x2), some (zrv x3), some (zrv x4), some (zI x5), none, none, none] [] h (zoI r) h' := by
  intro x0 x1 x2 x3 x4 x5 h r h' H
  unfold zm291_2349 at H
  obtain ⟨x21, e22, H⟩ := zlet_e H
  refine zA_inc rfl rfl rfl (e22.trans (congrArg (_ + ·) zkk62)) (zset1 (L' := [some (zrv x0), some (zrv x1), some (zrv x2), some (zrv x3), some (zrv x4), some (zI x21), none, none, none]) rfl rfl (zpcV rfl (zcat_rv _))) ?_
  refine zA_go rfl rfl ?_
  exact zA_tr (L := [some (zrv x0), some (zrv x1), some (zrv x2), some (zrv x3), some (zrv x4), some (zI x21), none, none, none]) rfl rfl (hk16 _ _ _ _ _ _ _ _ _ H)
def zm291_2304 (k16 : zq → zq → zq → zq → zq → Int32 → zH → zRs Int32) (x0 : zq) (x1 : zq) (x2 : zq) (x3 : zq) (x4 : zq) (x5 : Int32) (h : zH) : zRs Int32 :=
  zri x0 (x5 + (1 : Int32)) h fun v28 =>
  zri x0 (x5 + (2 : Int32)) h fun v37 =>
  zb2 (zm290 x1 v28 v37 x3 h) fun x40 h39 =>
  zri x0 (x5 + (1 : Int32)) h39 fun v48 =>
  zri x0 (x5 + (2 : Int32)) h39 fun v57 =>
  zob 12 x2 fun p59 i60 =>
  zb (zm240 x2 v48 v57 h39) fun x64 h63 =>
  zb (zm137 x2 h63) fun x66 h65 =>
  if x66 = x40 then
    if x40 = 0 then
      zrj x3 (0 : Int32) h65 fun v76 =>
      if (lg_cmp v76 (x64.toInt64)) = 0 then
        zm291_2349 k16 x0 x1 x2 x3 x4 x5 h65
      else
        some (.inl (0 : Int32), h65)
    else
      zm291_2349 k16 x0 x1 x2 x3 x4 x5 h65
  else
    some (.inl (0 : Int32), h65)
theorem zmS291_2304 {k16 : zq → zq → zq → zq → zq → Int32 → zH → zRs Int32} (hk16 : ∀ (x0 : zq) (x1 : zq) (x2 : zq) (x3 : zq) (x4 : zq) (x5 : Int32) (h : zH) (r : Int32 ⊕ Nat) (h' : zH), k16 x0 x1 x2 x3 x4 x5 h = some (r, h') → zAt 291 16 [some (zrv x0), some (zrv x1), some (zrv x2), some (zrv x3), some (zrv x4), some (zI x5), none, none, none] [] h (zoI r) h') : ∀ (x0 : zq) (x1 : zq) (x2 : zq) (x3 : zq) (x4 : zq) (x5 : Int32) (h : zH) (r : Int32 ⊕ Nat) (h' : zH), zm291_2304 k16 x0 x1 x2 x3 x4 x5 h = some (r, h') → zAt 291 2304 [some (zrv x0), some (zrv x1), some (zrv x2), some (zrv x3), some (zrv x4), some (zI x5), none, none, none] [] h (zoI r) h' := by
  intro x0 x1 x2 x3 x4 x5 h r h' H
  unfold zm291_2304 at H
  refine zA_aldn rfl rfl rfl ?_
  refine zA_aldn rfl rfl rfl ?_
  refine zA_ld rfl rfl rfl ?_
  refine zA_push rfl rfl zkk5 ?_
  refine zA_st (st' := [zI (x5 + (1 : Int32)), zrv x0, zrv x1]) rfl rfl rfl rfl ?_
  obtain ⟨p21, i22, j23, v28, e24, c25, c26, e27, e29, H⟩ := zri_e H
  refine zA_ial rfl rfl e24 c25 c26 e27 e29 ?_
  refine zA_aldn rfl rfl rfl ?_
  refine zA_ld rfl rfl rfl ?_
  refine zA_push rfl rfl zkk23 ?_
  refine zA_st (st' := [zI (x5 + (2 : Int32)), zrv x0, zI v28, zrv x1]) rfl rfl rfl rfl ?_
  obtain ⟨p30, i31, j32, v37, e33, c34, c35, e36, e38, H⟩ := zri_e H
  refine zA_ial rfl rfl e33 c34 c35 e36 e38 ?_
  refine zA_aldn rfl rfl rfl ?_
  obtain ⟨x40, h39, C, H⟩ := zb2_e H
  refine zA_callV (as := [zrv x1, zI v28, zI v37, zrv x3]) (st' := []) rfl rfl rfl rfl rfl (zmE290 _ _ _ _) rfl (zmS290 C) ?_
  refine zA_ist2 rfl rfl rfl (zset1 (L' := [some (zrv x0), some (zrv x1), some (zrv x2), some (zrv x3), some (zrv x4), some (zI x5), some (zI x40), none, none]) rfl rfl (zpcV rfl rfl)) ?_
  refine zA_aldn rfl rfl rfl ?_
  refine zA_aldn rfl rfl rfl ?_
  refine zA_ld rfl rfl rfl ?_
  refine zA_push rfl rfl zkk5 ?_
  refine zA_st (st' := [zI (x5 + (1 : Int32)), zrv x0, zrv x2]) rfl rfl rfl rfl ?_
  obtain ⟨p41, i42, j43, v48, e44, c45, c46, e47, e49, H⟩ := zri_e H
  refine zA_ial rfl rfl e44 c45 c46 e47 e49 ?_
  refine zA_aldn rfl rfl rfl ?_
  refine zA_ld rfl rfl rfl ?_
  refine zA_push rfl rfl zkk23 ?_
  refine zA_st (st' := [zI (x5 + (2 : Int32)), zrv x0, zI v48, zrv x2]) rfl rfl rfl rfl ?_
  obtain ⟨p50, i51, j52, v57, e53, c54, c55, e56, e58, H⟩ := zri_e H
  refine zA_ial rfl rfl e53 c54 c55 e56 e58 ?_
  obtain ⟨p59, i60, e61, c62, H⟩ := zob_e H
  rcases zb_e H with ⟨x64, h63, C, H⟩ | ⟨E, h63, C, H⟩
  · refine zA_callV (as := [zrv x2, zI v48, zI v57]) (st' := []) rfl rfl rfl (zrcv_Q e61 c62) rfl (zmE240 _ _ _) rfl (zmS240 C) ?_
    refine zA_ist2 rfl rfl rfl (zset1 (L' := [some (zrv x0), some (zrv x1), some (zrv x2), some (zrv x3), some (zrv x4), some (zI x5), some (zI x40), some (zI x64), none]) rfl rfl (zpcV rfl rfl)) ?_
    refine zA_aldn rfl rfl rfl ?_
    rcases zb_e H with ⟨x66, h65, C, H⟩ | ⟨E, h65, C, H⟩
    · refine zA_callV (as := [zrv x2]) (st' := []) rfl rfl rfl (zrcv_Q e61 c62) rfl (zmE137 _) rfl (zmS137 C) ?_
      refine zA_ld rfl rfl rfl ?_
      rcases zite_e H with ⟨c67, H⟩ | ⟨c67, H⟩
      · refine zA_brT (c := x66 = x40) rfl rfl rfl c67 ?_
        refine zA_ld rfl rfl rfl ?_
        rcases zite_e H with ⟨c68, H⟩ | ⟨c68, H⟩
        · refine zA_brF' (c := x40 = 0) rfl rfl rfl c68 ?_
          refine zA_aldn rfl rfl rfl ?_
          refine zA_push rfl rfl zkk7 ?_
          obtain ⟨p69, i70, j71, v76, e72, c73, c74, e75, e77, H⟩ := zrj_e H
          refine zA_lal rfl rfl e72 c73 c74 e75 e77 ?_
          refine zA_ld rfl rfl rfl ?_
          refine zA_st (st' := [zJ (x64.toInt64), zJ v76]) rfl rfl rfl rfl ?_
          refine zA_st (st' := [zI (lg_cmp v76 (x64.toInt64))]) rfl rfl rfl rfl ?_
          rcases zite_e H with ⟨c78, H⟩ | ⟨c78, H⟩
          · refine zA_brT (c := (lg_cmp v76 (x64.toInt64)) = 0) rfl rfl rfl c78 ?_
            refine zA_tr (L := [some (zrv x0), some (zrv x1), some (zrv x2), some (zrv x3), some (zrv x4), some (zI x5), none, none, none]) rfl rfl ?_
            refine zA_go rfl rfl ?_
            exact zA_tr (L := [some (zrv x0), some (zrv x1), some (zrv x2), some (zrv x3), some (zrv x4), some (zI x5), none, none, none]) rfl rfl (zmS291_2349 hk16 _ _ _ _ _ _ _ _ _ H)
          · refine zA_brF (c := (lg_cmp v76 (x64.toInt64)) = 0) rfl rfl rfl c78 ?_
            refine zA_push rfl rfl zkk7 ?_
            cases H
            exact zA_ret rfl (zret_Z (by decide))
        · refine zA_brT' (c := x40 = 0) rfl rfl rfl c68 ?_
          refine zA_tr (L := [some (zrv x0), some (zrv x1), some (zrv x2), some (zrv x3), some (zrv x4), some (zI x5), none, none, none]) rfl rfl ?_
          refine zA_go rfl rfl ?_
          exact zA_tr (L := [some (zrv x0), some (zrv x1), some (zrv x2), some (zrv x3), some (zrv x4), some (zI x5), none, none, none]) rfl rfl (zmS291_2349 hk16 _ _ _ _ _ _ _ _ _ H)
      · refine zA_brF (c := x66 = x40) rfl rfl rfl c67 ?_
        refine zA_push rfl rfl zkk7 ?_
        cases H
        exact zA_ret rfl (zret_Z (by decide))
    · cases H
      exact zA_callX (as := [zrv x2]) (st' := []) rfl rfl (zrcv_Q e61 c62) rfl (zmE137 _) rfl rfl rfl (zmS137 C)
  · cases H
    exact zA_callX (as := [zrv x2, zI v48, zI v57]) (st' := []) rfl rfl (zrcv_Q e61 c62) rfl (zmE240 _ _ _) rfl rfl rfl (zmS240 C)
def zm291_2282 (k16 : zq → zq → zq → zq → zq → Int32 → zH → zRs Int32) (x0 : zq) (x1 : zq) (x2 : zq) (x3 : zq) (x4 : zq) (x5 : Int32) (h : zH) : zRs Int32 :=
  zri x0 (x5 + (1 : Int32)) h fun v28 =>
  zb2 (zm289 x1 v28 h) fun x31 h30 =>
  zri x0 (x5 + (1 : Int32)) h30 fun v39 =>
  zob 12 x2 fun p41 i42 =>
  zb (zm239 x2 v39 h30) fun _ h45 =>
  zb (zm137 x2 h45) fun x47 h46 =>
  if x47 = x31 then
    zm291_2349 k16 x0 x1 x2 x3 x4 x5 h46
  else
    some (.inl (0 : Int32), h46)
theorem zmS291_2282 {k16 : zq → zq → zq → zq → zq → Int32 → zH → zRs Int32} (hk16 : ∀ (x0 : zq) (x1 : zq) (x2 : zq) (x3 : zq) (x4 : zq) (x5 : Int32) (h : zH) (r : Int32 ⊕ Nat) (h' : zH), k16 x0 x1 x2 x3 x4 x5 h = some (r, h') → zAt 291 16 [some (zrv x0), some (zrv x1), some (zrv x2), some (zrv x3), some (zrv x4), some (zI x5), none, none, none] [] h (zoI r) h') : ∀ (x0 : zq) (x1 : zq) (x2 : zq) (x3 : zq) (x4 : zq) (x5 : Int32) (h : zH) (r : Int32 ⊕ Nat) (h' : zH), zm291_2282 k16 x0 x1 x2 x3 x4 x5 h = some (r, h') → zAt 291 2282 [some (zrv x0), some (zrv x1), some (zrv x2), some (zrv x3), some (zrv x4), some (zI x5), none, none, none] [] h (zoI r) h' := by
  intro x0 x1 x2 x3 x4 x5 h r h' H
  unfold zm291_2282 at H
  refine zA_aldn rfl rfl rfl ?_
  refine zA_aldn rfl rfl rfl ?_
  refine zA_ld rfl rfl rfl ?_
  refine zA_push rfl rfl zkk5 ?_
  refine zA_st (st' := [zI (x5 + (1 : Int32)), zrv x0, zrv x1]) rfl rfl rfl rfl ?_
  obtain ⟨p21, i22, j23, v28, e24, c25, c26, e27, e29, H⟩ := zri_e H
  refine zA_ial rfl rfl e24 c25 c26 e27 e29 ?_
  obtain ⟨x31, h30, C, H⟩ := zb2_e H
  refine zA_callV (as := [zrv x1, zI v28]) (st' := []) rfl rfl rfl rfl rfl (zmE289 _ _) rfl (zmS289 C) ?_
  refine zA_ist2 rfl rfl rfl (zset1 (L' := [some (zrv x0), some (zrv x1), some (zrv x2), some (zrv x3), some (zrv x4), some (zI x5), some (zI x31), none, none]) rfl rfl (zpcV rfl rfl)) ?_
  refine zA_aldn rfl rfl rfl ?_
  refine zA_aldn rfl rfl rfl ?_
  refine zA_ld rfl rfl rfl ?_
  refine zA_push rfl rfl zkk5 ?_
  refine zA_st (st' := [zI (x5 + (1 : Int32)), zrv x0, zrv x2]) rfl rfl rfl rfl ?_
  obtain ⟨p32, i33, j34, v39, e35, c36, c37, e38, e40, H⟩ := zri_e H
  refine zA_ial rfl rfl e35 c36 c37 e38 e40 ?_
  obtain ⟨p41, i42, e43, c44, H⟩ := zob_e H
  rcases zb_e H with ⟨u49, h45, C, H⟩ | ⟨E, h45, C, H⟩
  · refine zA_callU (as := [zrv x2, zI v39]) (st' := []) rfl rfl rfl (zrcv_Q e43 c44) rfl (zmE239 _ _) rfl (zmS239 C) ?_
    refine zA_aldn rfl rfl rfl ?_
    rcases zb_e H with ⟨x47, h46, C, H⟩ | ⟨E, h46, C, H⟩
    · refine zA_callV (as := [zrv x2]) (st' := []) rfl rfl rfl (zrcv_Q e43 c44) rfl (zmE137 _) rfl (zmS137 C) ?_
      refine zA_ld rfl rfl rfl ?_
      rcases zite_e H with ⟨c48, H⟩ | ⟨c48, H⟩
      · refine zA_brT (c := x47 = x31) rfl rfl rfl c48 ?_
        refine zA_tr (L := [some (zrv x0), some (zrv x1), some (zrv x2), some (zrv x3), some (zrv x4), some (zI x5), none, none, none]) rfl rfl ?_
        refine zA_go rfl rfl ?_
        exact zA_tr (L := [some (zrv x0), some (zrv x1), some (zrv x2), some (zrv x3), some (zrv x4), some (zI x5), none, none, none]) rfl rfl (zmS291_2349 hk16 _ _ _ _ _ _ _ _ _ H)
      · refine zA_brF (c := x47 = x31) rfl rfl rfl c48 ?_
        refine zA_push rfl rfl zkk7 ?_
        cases H
        exact zA_ret rfl (zret_Z (by decide))
    · cases H
      exact zA_callX (as := [zrv x2]) (st' := []) rfl rfl (zrcv_Q e43 c44) rfl (zmE137 _) rfl rfl rfl (zmS137 C)
  · cases H
    exact zA_callX (as := [zrv x2, zI v39]) (st' := []) rfl rfl (zrcv_Q e43 c44) rfl (zmE239 _ _) rfl rfl rfl (zmS239 C)
def zm291_2207 (k16 : zq → zq → zq → zq → zq → Int32 → zH → zRs Int32) (x0 : zq) (x1 : zq) (x2 : zq) (x3 : zq) (x4 : zq) (x5 : Int32) (h : zH) : zRs Int32 :=
  zri x0 (x5 + (1 : Int32)) h fun v28 =>
  zri x0 (x5 + (2 : Int32)) h fun v37 =>
  zri x0 (x5 + (3 : Int32)) h fun v46 =>
  zri x0 (x5 + (4 : Int32)) h fun v55 =>
  zri x0 (x5 + (5 : Int32)) h fun v64 =>
  zb2 (zm288 x1 v28 v37 v46 v55 v64 x3 h) fun x67 h66 =>
  zri x0 (x5 + (1 : Int32)) h66 fun v75 =>
  zri x0 (x5 + (2 : Int32)) h66 fun v84 =>
  zri x0 (x5 + (3 : Int32)) h66 fun v93 =>
  zri x0 (x5 + (4 : Int32)) h66 fun v102 =>
  zri x0 (x5 + (5 : Int32)) h66 fun v111 =>
  zob 12 x2 fun p113 i114 =>
  zb (zm238 x2 v75 v84 v93 v102 v111 h66) fun x118 h117 =>
  zb (zm137 x2 h117) fun x120 h119 =>
  if x120 = x67 then
    if x67 = 0 then
      zrj x3 (0 : Int32) h119 fun v130 =>
      if (lg_cmp v130 (x118.toInt64)) = 0 then
        zm291_2349 k16 x0 x1 x2 x3 x4 x5 h119
      else
        some (.inl (0 : Int32), h119)
    else
      zm291_2349 k16 x0 x1 x2 x3 x4 x5 h119
  else
    some (.inl (0 : Int32), h119)
theorem zmS291_2207 {k16 : zq → zq → zq → zq → zq → Int32 → zH → zRs Int32} (hk16 : ∀ (x0 : zq) (x1 : zq) (x2 : zq) (x3 : zq) (x4 : zq) (x5 : Int32) (h : zH) (r : Int32 ⊕ Nat) (h' : zH), k16 x0 x1 x2 x3 x4 x5 h = some (r, h') → zAt 291 16 [some (zrv x0), some (zrv x1), some (zrv x2), some (zrv x3), some (zrv x4), some (zI x5), none, none, none] [] h (zoI r) h') : ∀ (x0 : zq) (x1 : zq) (x2 : zq) (x3 : zq) (x4 : zq) (x5 : Int32) (h : zH) (r : Int32 ⊕ Nat) (h' : zH), zm291_2207 k16 x0 x1 x2 x3 x4 x5 h = some (r, h') → zAt 291 2207 [some (zrv x0), some (zrv x1), some (zrv x2), some (zrv x3), some (zrv x4), some (zI x5), none, none, none] [] h (zoI r) h' := by
  intro x0 x1 x2 x3 x4 x5 h r h' H
  unfold zm291_2207 at H
  refine zA_aldn rfl rfl rfl ?_
  refine zA_aldn rfl rfl rfl ?_
  refine zA_ld rfl rfl rfl ?_
  refine zA_push rfl rfl zkk5 ?_
  refine zA_st (st' := [zI (x5 + (1 : Int32)), zrv x0, zrv x1]) rfl rfl rfl rfl ?_
  obtain ⟨p21, i22, j23, v28, e24, c25, c26, e27, e29, H⟩ := zri_e H
  refine zA_ial rfl rfl e24 c25 c26 e27 e29 ?_
  refine zA_aldn rfl rfl rfl ?_
  refine zA_ld rfl rfl rfl ?_
  refine zA_push rfl rfl zkk23 ?_
  refine zA_st (st' := [zI (x5 + (2 : Int32)), zrv x0, zI v28, zrv x1]) rfl rfl rfl rfl ?_
  obtain ⟨p30, i31, j32, v37, e33, c34, c35, e36, e38, H⟩ := zri_e H
  refine zA_ial rfl rfl e33 c34 c35 e36 e38 ?_
  refine zA_aldn rfl rfl rfl ?_
  refine zA_ld rfl rfl rfl ?_
  refine zA_push rfl rfl zkk3 ?_
  refine zA_st (st' := [zI (x5 + (3 : Int32)), zrv x0, zI v37, zI v28, zrv x1]) rfl rfl rfl rfl ?_
  obtain ⟨p39, i40, j41, v46, e42, c43, c44, e45, e47, H⟩ := zri_e H
  refine zA_ial rfl rfl e42 c43 c44 e45 e47 ?_
  refine zA_aldn rfl rfl rfl ?_
  refine zA_ld rfl rfl rfl ?_
  refine zA_push rfl rfl zkk9 ?_
  refine zA_st (st' := [zI (x5 + (4 : Int32)), zrv x0, zI v46, zI v37, zI v28, zrv x1]) rfl rfl rfl rfl ?_
  obtain ⟨p48, i49, j50, v55, e51, c52, c53, e54, e56, H⟩ := zri_e H
  refine zA_ial rfl rfl e51 c52 c53 e54 e56 ?_
  refine zA_aldn rfl rfl rfl ?_
  refine zA_ld rfl rfl rfl ?_
  refine zA_push rfl rfl zkk20 ?_
  refine zA_st (st' := [zI (x5 + (5 : Int32)), zrv x0, zI v55, zI v46, zI v37, zI v28, zrv x1]) rfl rfl rfl rfl ?_
  obtain ⟨p57, i58, j59, v64, e60, c61, c62, e63, e65, H⟩ := zri_e H
  refine zA_ial rfl rfl e60 c61 c62 e63 e65 ?_
  refine zA_aldn rfl rfl rfl ?_
  obtain ⟨x67, h66, C, H⟩ := zb2_e H
  refine zA_callV (as := [zrv x1, zI v28, zI v37, zI v46, zI v55, zI v64, zrv x3]) (st' := []) rfl rfl rfl rfl rfl (zmE288 _ _ _ _ _ _ _) rfl (zmS288 C) ?_
  refine zA_ist2 rfl rfl rfl (zset1 (L' := [some (zrv x0), some (zrv x1), some (zrv x2), some (zrv x3), some (zrv x4), some (zI x5), some (zI x67), none, none]) rfl rfl (zpcV rfl rfl)) ?_
  refine zA_aldn rfl rfl rfl ?_
  refine zA_aldn rfl rfl rfl ?_
  refine zA_ld rfl rfl rfl ?_
  refine zA_push rfl rfl zkk5 ?_
  refine zA_st (st' := [zI (x5 + (1 : Int32)), zrv x0, zrv x2]) rfl rfl rfl rfl ?_
  obtain ⟨p68, i69, j70, v75, e71, c72, c73, e74, e76, H⟩ := zri_e H
  refine zA_ial rfl rfl e71 c72 c73 e74 e76 ?_
  refine zA_aldn rfl rfl rfl ?_
  refine zA_ld rfl rfl rfl ?_
  refine zA_push rfl rfl zkk23 ?_
  refine zA_st (st' := [zI (x5 + (2 : Int32)), zrv x0, zI v75, zrv x2]) rfl rfl rfl rfl ?_
  obtain ⟨p77, i78, j79, v84, e80, c81, c82, e83, e85, H⟩ := zri_e H
  refine zA_ial rfl rfl e80 c81 c82 e83 e85 ?_
  refine zA_aldn rfl rfl rfl ?_
  refine zA_ld rfl rfl rfl ?_
  refine zA_push rfl rfl zkk3 ?_
  refine zA_st (st' := [zI (x5 + (3 : Int32)), zrv x0, zI v84, zI v75, zrv x2]) rfl rfl rfl rfl ?_
  obtain ⟨p86, i87, j88, v93, e89, c90, c91, e92, e94, H⟩ := zri_e H
  refine zA_ial rfl rfl e89 c90 c91 e92 e94 ?_
  refine zA_aldn rfl rfl rfl ?_
  refine zA_ld rfl rfl rfl ?_
  refine zA_push rfl rfl zkk9 ?_
  refine zA_st (st' := [zI (x5 + (4 : Int32)), zrv x0, zI v93, zI v84, zI v75, zrv x2]) rfl rfl rfl rfl ?_
  obtain ⟨p95, i96, j97, v102, e98, c99, c100, e101, e103, H⟩ := zri_e H
  refine zA_ial rfl rfl e98 c99 c100 e101 e103 ?_
  refine zA_aldn rfl rfl rfl ?_
  refine zA_ld rfl rfl rfl ?_
  refine zA_push rfl rfl zkk20 ?_
  refine zA_st (st' := [zI (x5 + (5 : Int32)), zrv x0, zI v102, zI v93, zI v84, zI v75, zrv x2]) rfl rfl rfl rfl ?_
  obtain ⟨p104, i105, j106, v111, e107, c108, c109, e110, e112, H⟩ := zri_e H
  refine zA_ial rfl rfl e107 c108 c109 e110 e112 ?_
  obtain ⟨p113, i114, e115, c116, H⟩ := zob_e H
  rcases zb_e H with ⟨x118, h117, C, H⟩ | ⟨E, h117, C, H⟩
  · refine zA_callV (as := [zrv x2, zI v75, zI v84, zI v93, zI v102, zI v111]) (st' := []) rfl rfl rfl (zrcv_Q e115 c116) rfl (zmE238 _ _ _ _ _ _) rfl (zmS238 C) ?_
    refine zA_ist2 rfl rfl rfl (zset1 (L' := [some (zrv x0), some (zrv x1), some (zrv x2), some (zrv x3), some (zrv x4), some (zI x5), some (zI x67), some (zI x118), none]) rfl rfl (zpcV rfl rfl)) ?_
    refine zA_aldn rfl rfl rfl ?_
    rcases zb_e H with ⟨x120, h119, C, H⟩ | ⟨E, h119, C, H⟩
    · refine zA_callV (as := [zrv x2]) (st' := []) rfl rfl rfl (zrcv_Q e115 c116) rfl (zmE137 _) rfl (zmS137 C) ?_
      refine zA_ld rfl rfl rfl ?_
      rcases zite_e H with ⟨c121, H⟩ | ⟨c121, H⟩
      · refine zA_brT (c := x120 = x67) rfl rfl rfl c121 ?_
        refine zA_ld rfl rfl rfl ?_
        rcases zite_e H with ⟨c122, H⟩ | ⟨c122, H⟩
        · refine zA_brF' (c := x67 = 0) rfl rfl rfl c122 ?_
          refine zA_aldn rfl rfl rfl ?_
          refine zA_push rfl rfl zkk7 ?_
          obtain ⟨p123, i124, j125, v130, e126, c127, c128, e129, e131, H⟩ := zrj_e H
          refine zA_lal rfl rfl e126 c127 c128 e129 e131 ?_
          refine zA_ld rfl rfl rfl ?_
          refine zA_st (st' := [zJ (x118.toInt64), zJ v130]) rfl rfl rfl rfl ?_
          refine zA_st (st' := [zI (lg_cmp v130 (x118.toInt64))]) rfl rfl rfl rfl ?_
          rcases zite_e H with ⟨c132, H⟩ | ⟨c132, H⟩
          · refine zA_brT (c := (lg_cmp v130 (x118.toInt64)) = 0) rfl rfl rfl c132 ?_
            refine zA_tr (L := [some (zrv x0), some (zrv x1), some (zrv x2), some (zrv x3), some (zrv x4), some (zI x5), none, none, none]) rfl rfl ?_
            refine zA_go rfl rfl ?_
            exact zA_tr (L := [some (zrv x0), some (zrv x1), some (zrv x2), some (zrv x3), some (zrv x4), some (zI x5), none, none, none]) rfl rfl (zmS291_2349 hk16 _ _ _ _ _ _ _ _ _ H)
          · refine zA_brF (c := (lg_cmp v130 (x118.toInt64)) = 0) rfl rfl rfl c132 ?_
            refine zA_push rfl rfl zkk7 ?_
            cases H
            exact zA_ret rfl (zret_Z (by decide))
        · refine zA_brT' (c := x67 = 0) rfl rfl rfl c122 ?_
          refine zA_tr (L := [some (zrv x0), some (zrv x1), some (zrv x2), some (zrv x3), some (zrv x4), some (zI x5), none, none, none]) rfl rfl ?_
          refine zA_go rfl rfl ?_
          exact zA_tr (L := [some (zrv x0), some (zrv x1), some (zrv x2), some (zrv x3), some (zrv x4), some (zI x5), none, none, none]) rfl rfl (zmS291_2349 hk16 _ _ _ _ _ _ _ _ _ H)
      · refine zA_brF (c := x120 = x67) rfl rfl rfl c121 ?_
        refine zA_push rfl rfl zkk7 ?_
        cases H
        exact zA_ret rfl (zret_Z (by decide))
    · cases H
      exact zA_callX (as := [zrv x2]) (st' := []) rfl rfl (zrcv_Q e115 c116) rfl (zmE137 _) rfl rfl rfl (zmS137 C)
  · cases H
    exact zA_callX (as := [zrv x2, zI v75, zI v84, zI v93, zI v102, zI v111]) (st' := []) rfl rfl (zrcv_Q e115 c116) rfl (zmE238 _ _ _ _ _ _) rfl rfl rfl (zmS238 C)
def zm291_2200 (k16 : zq → zq → zq → zq → zq → Int32 → zH → zRs Int32) (x0 : zq) (x1 : zq) (x2 : zq) (x3 : zq) (x4 : zq) (x5 : Int32) (h : zH) : zRs Int32 :=
  zob 11 x1 fun p21 i22 =>
  zb (zm125 x1 h) fun x26 h25 =>
  zob 12 x2 fun p27 i28 =>
  zb (zm237 x2 h25) fun x32 h31 =>
  if x26 = x32 then
    zm291_2349 k16 x0 x1 x2 x3 x4 x5 h31
  else
    some (.inl (0 : Int32), h31)
theorem zmS291_2200 {k16 : zq → zq → zq → zq → zq → Int32 → zH → zRs Int32} (hk16 : ∀ (x0 : zq) (x1 : zq) (x2 : zq) (x3 : zq) (x4 : zq) (x5 : Int32) (h : zH) (r : Int32 ⊕ Nat) (h' : zH), k16 x0 x1 x2 x3 x4 x5 h = some (r, h') → zAt 291 16 [some (zrv x0), some (zrv x1), some (zrv x2), some (zrv x3), some (zrv x4), some (zI x5), none, none, none] [] h (zoI r) h') : ∀ (x0 : zq) (x1 : zq) (x2 : zq) (x3 : zq) (x4 : zq) (x5 : Int32) (h : zH) (r : Int32 ⊕ Nat) (h' : zH), zm291_2200 k16 x0 x1 x2 x3 x4 x5 h = some (r, h') → zAt 291 2200 [some (zrv x0), some (zrv x1), some (zrv x2), some (zrv x3), some (zrv x4), some (zI x5), none, none, none] [] h (zoI r) h' := by
  intro x0 x1 x2 x3 x4 x5 h r h' H
  unfold zm291_2200 at H
  refine zA_aldn rfl rfl rfl ?_
  obtain ⟨p21, i22, e23, c24, H⟩ := zob_e H
  rcases zb_e H with ⟨x26, h25, C, H⟩ | ⟨E, h25, C, H⟩
  · refine zA_callV (as := [zrv x1]) (st' := []) rfl rfl rfl (zrcv_Q e23 c24) rfl (zmE125 _) rfl (zmS125 C) ?_
    refine zA_aldn rfl rfl rfl ?_
    obtain ⟨p27, i28, e29, c30, H⟩ := zob_e H
    rcases zb_e H with ⟨x32, h31, C, H⟩ | ⟨E, h31, C, H⟩
    · refine zA_callV (as := [zrv x2]) (st' := [zI x26]) rfl rfl rfl (zrcv_Q e29 c30) rfl (zmE237 _) rfl (zmS237 C) ?_
      rcases zite_e H with ⟨c33, H⟩ | ⟨c33, H⟩
      · refine zA_brT (c := x26 = x32) rfl rfl rfl c33 ?_
        exact zA_tr (L := [some (zrv x0), some (zrv x1), some (zrv x2), some (zrv x3), some (zrv x4), some (zI x5), none, none, none]) rfl rfl (zmS291_2349 hk16 _ _ _ _ _ _ _ _ _ H)
      · refine zA_brF (c := x26 = x32) rfl rfl rfl c33 ?_
        refine zA_push rfl rfl zkk7 ?_
        cases H
        exact zA_ret rfl (zret_Z (by decide))
    · cases H
      exact zA_callX (as := [zrv x2]) (st' := [zI x26]) rfl rfl (zrcv_Q e29 c30) rfl (zmE237 _) rfl rfl rfl (zmS237 C)
  · cases H
    exact zA_callX (as := [zrv x1]) (st' := []) rfl rfl (zrcv_Q e23 c24) rfl (zmE125 _) rfl rfl rfl (zmS125 C)
def zm291_2195 (k16 : zq → zq → zq → zq → zq → Int32 → zH → zRs Int32) (x0 : zq) (x1 : zq) (x2 : zq) (x3 : zq) (x4 : zq) (x5 : Int32) (s0 : Int64) (s1 : Int64) (h : zH) : zRs Int32 :=
  if (lg_cmp s0 s1) = 0 then
    zm291_2349 k16 x0 x1 x2 x3 x4 x5 h
  else
    some (.inl (0 : Int32), h)
theorem zmS291_2195 {k16 : zq → zq → zq → zq → zq → Int32 → zH → zRs Int32} (hk16 : ∀ (x0 : zq) (x1 : zq) (x2 : zq) (x3 : zq) (x4 : zq) (x5 : Int32) (h : zH) (r : Int32 ⊕ Nat) (h' : zH), k16 x0 x1 x2 x3 x4 x5 h = some (r, h') → zAt 291 16 [some (zrv x0), some (zrv x1), some (zrv x2), some (zrv x3), some (zrv x4), some (zI x5), none, none, none] [] h (zoI r) h') : ∀ (x0 : zq) (x1 : zq) (x2 : zq) (x3 : zq) (x4 : zq) (x5 : Int32) (s0 : Int64) (s1 : Int64) (h : zH) (r : Int32 ⊕ Nat) (h' : zH), zm291_2195 k16 x0 x1 x2 x3 x4 x5 s0 s1 h = some (r, h') → zAt 291 2195 [some (zrv x0), some (zrv x1), some (zrv x2), some (zrv x3), some (zrv x4), some (zI x5), none, none, none] [zJ s1, zJ s0] h (zoI r) h' := by
  intro x0 x1 x2 x3 x4 x5 s0 s1 h r h' H
  unfold zm291_2195 at H
  refine zA_st (st' := [zI (lg_cmp s0 s1)]) rfl rfl rfl rfl ?_
  rcases zite_e H with ⟨c21, H⟩ | ⟨c21, H⟩
  · refine zA_brT (c := (lg_cmp s0 s1) = 0) rfl rfl rfl c21 ?_
    refine zA_go rfl rfl ?_
    exact zA_tr (L := [some (zrv x0), some (zrv x1), some (zrv x2), some (zrv x3), some (zrv x4), some (zI x5), none, none, none]) rfl rfl (zmS291_2349 hk16 _ _ _ _ _ _ _ _ _ H)
  · refine zA_brF (c := (lg_cmp s0 s1) = 0) rfl rfl rfl c21 ?_
    refine zA_push rfl rfl zkk7 ?_
    cases H
    exact zA_ret rfl (zret_Z (by decide))
def zm291_2152 (k16 : zq → zq → zq → zq → zq → Int32 → zH → zRs Int32) (x0 : zq) (x1 : zq) (x2 : zq) (x3 : zq) (x4 : zq) (x5 : Int32) (h : zH) : zRs Int32 :=
  zri x0 (x5 + (1 : Int32)) h fun v28 =>
  zri x0 (x5 + (2 : Int32)) h fun v37 =>
  zb2 (zm287 x1 v28 v37 x3 h) fun x40 h39 =>
  zri x0 (x5 + (1 : Int32)) h39 fun v48 =>
  zri x0 (x5 + (2 : Int32)) h39 fun v57 =>
  zob 12 x2 fun p59 i60 =>
  zb (zm236 x2 v48 v57 h39) fun x64 h63 =>
  zb (zm137 x2 h63) fun x66 h65 =>
  if x66 = x40 then
    if x40 = 0 then
      zrj x3 (0 : Int32) h65 fun v76 =>
      if x64 = 0 then
        zm291_2195 k16 x0 x1 x2 x3 x4 x5 v76 (0 : Int64) h65
      else
        zm291_2195 k16 x0 x1 x2 x3 x4 x5 v76 (1 : Int64) h65
    else
      zm291_2349 k16 x0 x1 x2 x3 x4 x5 h65
  else
    some (.inl (0 : Int32), h65)
theorem zmS291_2152 {k16 : zq → zq → zq → zq → zq → Int32 → zH → zRs Int32} (hk16 : ∀ (x0 : zq) (x1 : zq) (x2 : zq) (x3 : zq) (x4 : zq) (x5 : Int32) (h : zH) (r : Int32 ⊕ Nat) (h' : zH), k16 x0 x1 x2 x3 x4 x5 h = some (r, h') → zAt 291 16 [some (zrv x0), some (zrv x1), some (zrv x2), some (zrv x3), some (zrv x4), some (zI x5), none, none, none] [] h (zoI r) h') : ∀ (x0 : zq) (x1 : zq) (x2 : zq) (x3 : zq) (x4 : zq) (x5 : Int32) (h : zH) (r : Int32 ⊕ Nat) (h' : zH), zm291_2152 k16 x0 x1 x2 x3 x4 x5 h = some (r, h') → zAt 291 2152 [some (zrv x0), some (zrv x1), some (zrv x2), some (zrv x3), some (zrv x4), some (zI x5), none, none, none] [] h (zoI r) h' := by
  intro x0 x1 x2 x3 x4 x5 h r h' H
  unfold zm291_2152 at H
  refine zA_aldn rfl rfl rfl ?_
  refine zA_aldn rfl rfl rfl ?_
  refine zA_ld rfl rfl rfl ?_
  refine zA_push rfl rfl zkk5 ?_
  refine zA_st (st' := [zI (x5 + (1 : Int32)), zrv x0, zrv x1]) rfl rfl rfl rfl ?_
  obtain ⟨p21, i22, j23, v28, e24, c25, c26, e27, e29, H⟩ := zri_e H
  refine zA_ial rfl rfl e24 c25 c26 e27 e29 ?_
  refine zA_aldn rfl rfl rfl ?_
  refine zA_ld rfl rfl rfl ?_
  refine zA_push rfl rfl zkk23 ?_
  refine zA_st (st' := [zI (x5 + (2 : Int32)), zrv x0, zI v28, zrv x1]) rfl rfl rfl rfl ?_
  obtain ⟨p30, i31, j32, v37, e33, c34, c35, e36, e38, H⟩ := zri_e H
  refine zA_ial rfl rfl e33 c34 c35 e36 e38 ?_
  refine zA_aldn rfl rfl rfl ?_
  obtain ⟨x40, h39, C, H⟩ := zb2_e H
  refine zA_callV (as := [zrv x1, zI v28, zI v37, zrv x3]) (st' := []) rfl rfl rfl rfl rfl (zmE287 _ _ _ _) rfl (zmS287 C) ?_
  refine zA_ist2 rfl rfl rfl (zset1 (L' := [some (zrv x0), some (zrv x1), some (zrv x2), some (zrv x3), some (zrv x4), some (zI x5), some (zI x40), none, none]) rfl rfl (zpcV rfl rfl)) ?_
  refine zA_aldn rfl rfl rfl ?_
  refine zA_aldn rfl rfl rfl ?_
  refine zA_ld rfl rfl rfl ?_
  refine zA_push rfl rfl zkk5 ?_
  refine zA_st (st' := [zI (x5 + (1 : Int32)), zrv x0, zrv x2]) rfl rfl rfl rfl ?_
  obtain ⟨p41, i42, j43, v48, e44, c45, c46, e47, e49, H⟩ := zri_e H
  refine zA_ial rfl rfl e44 c45 c46 e47 e49 ?_
  refine zA_aldn rfl rfl rfl ?_
  refine zA_ld rfl rfl rfl ?_
  refine zA_push rfl rfl zkk23 ?_
  refine zA_st (st' := [zI (x5 + (2 : Int32)), zrv x0, zI v48, zrv x2]) rfl rfl rfl rfl ?_
  obtain ⟨p50, i51, j52, v57, e53, c54, c55, e56, e58, H⟩ := zri_e H
  refine zA_ial rfl rfl e53 c54 c55 e56 e58 ?_
  obtain ⟨p59, i60, e61, c62, H⟩ := zob_e H
  rcases zb_e H with ⟨x64, h63, C, H⟩ | ⟨E, h63, C, H⟩
  · refine zA_callV (as := [zrv x2, zI v48, zI v57]) (st' := []) rfl rfl rfl (zrcv_Q e61 c62) rfl (zmE236 _ _ _) rfl (zmS236 C) ?_
    refine zA_ist2 rfl rfl rfl (zset1 (L' := [some (zrv x0), some (zrv x1), some (zrv x2), some (zrv x3), some (zrv x4), some (zI x5), some (zI x40), some (zI x64), none]) rfl rfl (zpcV rfl rfl)) ?_
    refine zA_aldn rfl rfl rfl ?_
    rcases zb_e H with ⟨x66, h65, C, H⟩ | ⟨E, h65, C, H⟩
    · refine zA_callV (as := [zrv x2]) (st' := []) rfl rfl rfl (zrcv_Q e61 c62) rfl (zmE137 _) rfl (zmS137 C) ?_
      refine zA_ld rfl rfl rfl ?_
      rcases zite_e H with ⟨c67, H⟩ | ⟨c67, H⟩
      · refine zA_brT (c := x66 = x40) rfl rfl rfl c67 ?_
        refine zA_ld rfl rfl rfl ?_
        rcases zite_e H with ⟨c68, H⟩ | ⟨c68, H⟩
        · refine zA_brF' (c := x40 = 0) rfl rfl rfl c68 ?_
          refine zA_aldn rfl rfl rfl ?_
          refine zA_push rfl rfl zkk7 ?_
          obtain ⟨p69, i70, j71, v76, e72, c73, c74, e75, e77, H⟩ := zrj_e H
          refine zA_lal rfl rfl e72 c73 c74 e75 e77 ?_
          refine zA_ld rfl rfl rfl ?_
          rcases zite_e H with ⟨c78, H⟩ | ⟨c78, H⟩
          · refine zA_brT (c := x64 = 0) rfl rfl rfl c78 ?_
            refine zA_tr (L := [some (zrv x0), some (zrv x1), some (zrv x2), some (zrv x3), some (zrv x4), some (zI x5), none, none, none]) rfl rfl ?_
            refine zA_push rfl rfl zkk24 ?_
            exact zA_tr (L := [some (zrv x0), some (zrv x1), some (zrv x2), some (zrv x3), some (zrv x4), some (zI x5), none, none, none]) rfl rfl (zmS291_2195 hk16 _ _ _ _ _ _ _ _ _ _ _ H)
          · refine zA_brF (c := x64 = 0) rfl rfl rfl c78 ?_
            refine zA_push rfl rfl zkk25 ?_
            refine zA_go rfl rfl ?_
            exact zA_tr (L := [some (zrv x0), some (zrv x1), some (zrv x2), some (zrv x3), some (zrv x4), some (zI x5), none, none, none]) rfl rfl (zmS291_2195 hk16 _ _ _ _ _ _ _ _ _ _ _ H)
        · refine zA_brT' (c := x40 = 0) rfl rfl rfl c68 ?_
          refine zA_tr (L := [some (zrv x0), some (zrv x1), some (zrv x2), some (zrv x3), some (zrv x4), some (zI x5), none, none, none]) rfl rfl ?_
          refine zA_go rfl rfl ?_
          exact zA_tr (L := [some (zrv x0), some (zrv x1), some (zrv x2), some (zrv x3), some (zrv x4), some (zI x5), none, none, none]) rfl rfl (zmS291_2349 hk16 _ _ _ _ _ _ _ _ _ H)
      · refine zA_brF (c := x66 = x40) rfl rfl rfl c67 ?_
        refine zA_push rfl rfl zkk7 ?_
        cases H
        exact zA_ret rfl (zret_Z (by decide))
    · cases H
      exact zA_callX (as := [zrv x2]) (st' := []) rfl rfl (zrcv_Q e61 c62) rfl (zmE137 _) rfl rfl rfl (zmS137 C)
  · cases H
    exact zA_callX (as := [zrv x2, zI v48, zI v57]) (st' := []) rfl rfl (zrcv_Q e61 c62) rfl (zmE236 _ _ _) rfl rfl rfl (zmS236 C)
def zm291_2120 (k16 : zq → zq → zq → zq → zq → Int32 → zH → zRs Int32) (x0 : zq) (x1 : zq) (x2 : zq) (x3 : zq) (x4 : zq) (x5 : Int32) (h : zH) : zRs Int32 :=
  zri x0 (x5 + (1 : Int32)) h fun v28 =>
  zri x0 (x5 + (2 : Int32)) h fun v37 =>
  zb2 (zm286 x1 v28 v37 h) fun x40 h39 =>
  zri x0 (x5 + (1 : Int32)) h39 fun v48 =>
  zri x0 (x5 + (2 : Int32)) h39 fun v57 =>
  zob 12 x2 fun p59 i60 =>
  zb (zm233 x2 v48 v57 h39) fun _ h63 =>
  zb (zm137 x2 h63) fun x65 h64 =>
  if x65 = x40 then
    zm291_2349 k16 x0 x1 x2 x3 x4 x5 h64
  else
    some (.inl (0 : Int32), h64)
theorem zmS291_2120 {k16 : zq → zq → zq → zq → zq → Int32 → zH → zRs Int32} (hk16 : ∀ (x0 : zq) (x1 : zq) (x2 : zq) (x3 : zq) (x4 : zq) (x5 : Int32) (h : zH) (r : Int32 ⊕ Nat) (h' : zH), k16 x0 x1 x2 x3 x4 x5 h = some (r, h') → zAt 291 16 [some (zrv x0), some (zrv x1), some (zrv x2), some (zrv x3), some (zrv x4), some (zI x5), none, none, none] [] h (zoI r) h') : ∀ (x0 : zq) (x1 : zq) (x2 : zq) (x3 : zq) (x4 : zq) (x5 : Int32) (h : zH) (r : Int32 ⊕ Nat) (h' : zH), zm291_2120 k16 x0 x1 x2 x3 x4 x5 h = some (r, h') → zAt 291 2120 [some (zrv x0), some (zrv x1), some (zrv x2), some (zrv x3), some (zrv x4), some (zI x5), none, none, none] [] h (zoI r) h' := by
  intro x0 x1 x2 x3 x4 x5 h r h' H
  unfold zm291_2120 at H
  refine zA_aldn rfl rfl rfl ?_
  refine zA_aldn rfl rfl rfl ?_
  refine zA_ld rfl rfl rfl ?_
  refine zA_push rfl rfl zkk5 ?_
  refine zA_st (st' := [zI (x5 + (1 : Int32)), zrv x0, zrv x1]) rfl rfl rfl rfl ?_
  obtain ⟨p21, i22, j23, v28, e24, c25, c26, e27, e29, H⟩ := zri_e H
  refine zA_ial rfl rfl e24 c25 c26 e27 e29 ?_
  refine zA_aldn rfl rfl rfl ?_
  refine zA_ld rfl rfl rfl ?_
  refine zA_push rfl rfl zkk23 ?_
  refine zA_st (st' := [zI (x5 + (2 : Int32)), zrv x0, zI v28, zrv x1]) rfl rfl rfl rfl ?_
  obtain ⟨p30, i31, j32, v37, e33, c34, c35, e36, e38, H⟩ := zri_e H
  refine zA_ial rfl rfl e33 c34 c35 e36 e38 ?_
  obtain ⟨x40, h39, C, H⟩ := zb2_e H
  refine zA_callV (as := [zrv x1, zI v28, zI v37]) (st' := []) rfl rfl rfl rfl rfl (zmE286 _ _ _) rfl (zmS286 C) ?_
  refine zA_ist2 rfl rfl rfl (zset1 (L' := [some (zrv x0), some (zrv x1), some (zrv x2), some (zrv x3), some (zrv x4), some (zI x5), some (zI x40), none, none]) rfl rfl (zpcV rfl rfl)) ?_
  refine zA_aldn rfl rfl rfl ?_
  refine zA_aldn rfl rfl rfl ?_
  refine zA_ld rfl rfl rfl ?_
  refine zA_push rfl rfl zkk5 ?_
  refine zA_st (st' := [zI (x5 + (1 : Int32)), zrv x0, zrv x2]) rfl rfl rfl rfl ?_
  obtain ⟨p41, i42, j43, v48, e44, c45, c46, e47, e49, H⟩ := zri_e H
  refine zA_ial rfl rfl e44 c45 c46 e47 e49 ?_
  refine zA_aldn rfl rfl rfl ?_
  refine zA_ld rfl rfl rfl ?_
  refine zA_push rfl rfl zkk23 ?_
  refine zA_st (st' := [zI (x5 + (2 : Int32)), zrv x0, zI v48, zrv x2]) rfl rfl rfl rfl ?_
  obtain ⟨p50, i51, j52, v57, e53, c54, c55, e56, e58, H⟩ := zri_e H
  refine zA_ial rfl rfl e53 c54 c55 e56 e58 ?_
  obtain ⟨p59, i60, e61, c62, H⟩ := zob_e H
  rcases zb_e H with ⟨u67, h63, C, H⟩ | ⟨E, h63, C, H⟩
  · refine zA_callU (as := [zrv x2, zI v48, zI v57]) (st' := []) rfl rfl rfl (zrcv_Q e61 c62) rfl (zmE233 _ _ _) rfl (zmS233 C) ?_
    refine zA_aldn rfl rfl rfl ?_
    rcases zb_e H with ⟨x65, h64, C, H⟩ | ⟨E, h64, C, H⟩
    · refine zA_callV (as := [zrv x2]) (st' := []) rfl rfl rfl (zrcv_Q e61 c62) rfl (zmE137 _) rfl (zmS137 C) ?_
      refine zA_ld rfl rfl rfl ?_
      rcases zite_e H with ⟨c66, H⟩ | ⟨c66, H⟩
      · refine zA_brT (c := x65 = x40) rfl rfl rfl c66 ?_
        refine zA_tr (L := [some (zrv x0), some (zrv x1), some (zrv x2), some (zrv x3), some (zrv x4), some (zI x5), none, none, none]) rfl rfl ?_
        refine zA_go rfl rfl ?_
        exact zA_tr (L := [some (zrv x0), some (zrv x1), some (zrv x2), some (zrv x3), some (zrv x4), some (zI x5), none, none, none]) rfl rfl (zmS291_2349 hk16 _ _ _ _ _ _ _ _ _ H)
      · refine zA_brF (c := x65 = x40) rfl rfl rfl c66 ?_
        refine zA_push rfl rfl zkk7 ?_
        cases H
        exact zA_ret rfl (zret_Z (by decide))
    · cases H
      exact zA_callX (as := [zrv x2]) (st' := []) rfl rfl (zrcv_Q e61 c62) rfl (zmE137 _) rfl rfl rfl (zmS137 C)
  · cases H
    exact zA_callX (as := [zrv x2, zI v48, zI v57]) (st' := []) rfl rfl (zrcv_Q e61 c62) rfl (zmE233 _ _ _) rfl rfl rfl (zmS233 C)
def zm291_2115 (k16 : zq → zq → zq → zq → zq → Int32 → zH → zRs Int32) (x0 : zq) (x1 : zq) (x2 : zq) (x3 : zq) (x4 : zq) (x5 : Int32) (s0 : Int64) (s1 : Int64) (h : zH) : zRs Int32 :=
  if (lg_cmp s0 s1) = 0 then
    zm291_2349 k16 x0 x1 x2 x3 x4 x5 h
  else
    some (.inl (0 : Int32), h)
theorem zmS291_2115 {k16 : zq → zq → zq → zq → zq → Int32 → zH → zRs Int32} (hk16 : ∀ (x0 : zq) (x1 : zq) (x2 : zq) (x3 : zq) (x4 : zq) (x5 : Int32) (h : zH) (r : Int32 ⊕ Nat) (h' : zH), k16 x0 x1 x2 x3 x4 x5 h = some (r, h') → zAt 291 16 [some (zrv x0), some (zrv x1), some (zrv x2), some (zrv x3), some (zrv x4), some (zI x5), none, none, none] [] h (zoI r) h') : ∀ (x0 : zq) (x1 : zq) (x2 : zq) (x3 : zq) (x4 : zq) (x5 : Int32) (s0 : Int64) (s1 : Int64) (h : zH) (r : Int32 ⊕ Nat) (h' : zH), zm291_2115 k16 x0 x1 x2 x3 x4 x5 s0 s1 h = some (r, h') → zAt 291 2115 [some (zrv x0), some (zrv x1), some (zrv x2), some (zrv x3), some (zrv x4), some (zI x5), none, none, none] [zJ s1, zJ s0] h (zoI r) h' := by
  intro x0 x1 x2 x3 x4 x5 s0 s1 h r h' H
  unfold zm291_2115 at H
  refine zA_st (st' := [zI (lg_cmp s0 s1)]) rfl rfl rfl rfl ?_
  rcases zite_e H with ⟨c21, H⟩ | ⟨c21, H⟩
  · refine zA_brT (c := (lg_cmp s0 s1) = 0) rfl rfl rfl c21 ?_
    refine zA_go rfl rfl ?_
    exact zA_tr (L := [some (zrv x0), some (zrv x1), some (zrv x2), some (zrv x3), some (zrv x4), some (zI x5), none, none, none]) rfl rfl (zmS291_2349 hk16 _ _ _ _ _ _ _ _ _ H)
  · refine zA_brF (c := (lg_cmp s0 s1) = 0) rfl rfl rfl c21 ?_
    refine zA_push rfl rfl zkk7 ?_
    cases H
    exact zA_ret rfl (zret_Z (by decide))
def zm291_2082 (k16 : zq → zq → zq → zq → zq → Int32 → zH → zRs Int32) (x0 : zq) (x1 : zq) (x2 : zq) (x3 : zq) (x4 : zq) (x5 : Int32) (h : zH) : zRs Int32 :=
  zri x0 (x5 + (1 : Int32)) h fun v28 =>
  zb2 (zm285 x1 v28 x3 h) fun x31 h30 =>
  zri x0 (x5 + (1 : Int32)) h30 fun v39 =>
  zob 12 x2 fun p41 i42 =>
  zb (zm232 x2 v39 h30) fun x46 h45 =>
  zb (zm137 x2 h45) fun x48 h47 =>
  if x48 = x31 then
    if x31 = 0 then
      zrj x3 (0 : Int32) h47 fun v58 =>
      if x46 = 0 then
        zm291_2115 k16 x0 x1 x2 x3 x4 x5 v58 (0 : Int64) h47
      else
        zm291_2115 k16 x0 x1 x2 x3 x4 x5 v58 (1 : Int64) h47
    else
      zm291_2349 k16 x0 x1 x2 x3 x4 x5 h47
  else
    some (.inl (0 : Int32), h47)
theorem zmS291_2082 {k16 : zq → zq → zq → zq → zq → Int32 → zH → zRs Int32} (hk16 : ∀ (x0 : zq) (x1 : zq) (x2 : zq) (x3 : zq) (x4 : zq) (x5 : Int32) (h : zH) (r : Int32 ⊕ Nat) (h' : zH), k16 x0 x1 x2 x3 x4 x5 h = some (r, h') → zAt 291 16 [some (zrv x0), some (zrv x1), some (zrv x2), some (zrv x3), some (zrv x4), some (zI x5), none, none, none] [] h (zoI r) h') : ∀ (x0 : zq) (x1 : zq) (x2 : zq) (x3 : zq) (x4 : zq) (x5 : Int32) (h : zH) (r : Int32 ⊕ Nat) (h' : zH), zm291_2082 k16 x0 x1 x2 x3 x4 x5 h = some (r, h') → zAt 291 2082 [some (zrv x0), some (zrv x1), some (zrv x2), some (zrv x3), some (zrv x4), some (zI x5), none, none, none] [] h (zoI r) h' := by
  intro x0 x1 x2 x3 x4 x5 h r h' H
  unfold zm291_2082 at H
  refine zA_aldn rfl rfl rfl ?_
  refine zA_aldn rfl rfl rfl ?_
  refine zA_ld rfl rfl rfl ?_
  refine zA_push rfl rfl zkk5 ?_
  refine zA_st (st' := [zI (x5 + (1 : Int32)), zrv x0, zrv x1]) rfl rfl rfl rfl ?_
  obtain ⟨p21, i22, j23, v28, e24, c25, c26, e27, e29, H⟩ := zri_e H
  refine zA_ial rfl rfl e24 c25 c26 e27 e29 ?_
  refine zA_aldn rfl rfl rfl ?_
  obtain ⟨x31, h30, C, H⟩ := zb2_e H
  refine zA_callV (as := [zrv x1, zI v28, zrv x3]) (st' := []) rfl rfl rfl rfl rfl (zmE285 _ _ _) rfl (zmS285 C) ?_
  refine zA_ist2 rfl rfl rfl (zset1 (L' := [some (zrv x0), some (zrv x1), some (zrv x2), some (zrv x3), some (zrv x4), some (zI x5), some (zI x31), none, none]) rfl rfl (zpcV rfl rfl)) ?_
  refine zA_aldn rfl rfl rfl ?_
  refine zA_aldn rfl rfl rfl ?_
  refine zA_ld rfl rfl rfl ?_
  refine zA_push rfl rfl zkk5 ?_
  refine zA_st (st' := [zI (x5 + (1 : Int32)), zrv x0, zrv x2]) rfl rfl rfl rfl ?_
  obtain ⟨p32, i33, j34, v39, e35, c36, c37, e38, e40, H⟩ := zri_e H
  refine zA_ial rfl rfl e35 c36 c37 e38 e40 ?_
  obtain ⟨p41, i42, e43, c44, H⟩ := zob_e H
  rcases zb_e H with ⟨x46, h45, C, H⟩ | ⟨E, h45, C, H⟩
  · refine zA_callV (as := [zrv x2, zI v39]) (st' := []) rfl rfl rfl (zrcv_Q e43 c44) rfl (zmE232 _ _) rfl (zmS232 C) ?_
    refine zA_ist2 rfl rfl rfl (zset1 (L' := [some (zrv x0), some (zrv x1), some (zrv x2), some (zrv x3), some (zrv x4), some (zI x5), some (zI x31), some (zI x46), none]) rfl rfl (zpcV rfl rfl)) ?_
    refine zA_aldn rfl rfl rfl ?_
    rcases zb_e H with ⟨x48, h47, C, H⟩ | ⟨E, h47, C, H⟩
    · refine zA_callV (as := [zrv x2]) (st' := []) rfl rfl rfl (zrcv_Q e43 c44) rfl (zmE137 _) rfl (zmS137 C) ?_
      refine zA_ld rfl rfl rfl ?_
      rcases zite_e H with ⟨c49, H⟩ | ⟨c49, H⟩
      · refine zA_brT (c := x48 = x31) rfl rfl rfl c49 ?_
        refine zA_ld rfl rfl rfl ?_
        rcases zite_e H with ⟨c50, H⟩ | ⟨c50, H⟩
        · refine zA_brF' (c := x31 = 0) rfl rfl rfl c50 ?_
          refine zA_aldn rfl rfl rfl ?_
          refine zA_push rfl rfl zkk7 ?_
          obtain ⟨p51, i52, j53, v58, e54, c55, c56, e57, e59, H⟩ := zrj_e H
          refine zA_lal rfl rfl e54 c55 c56 e57 e59 ?_
          refine zA_ld rfl rfl rfl ?_
          rcases zite_e H with ⟨c60, H⟩ | ⟨c60, H⟩
          · refine zA_brT (c := x46 = 0) rfl rfl rfl c60 ?_
            refine zA_tr (L := [some (zrv x0), some (zrv x1), some (zrv x2), some (zrv x3), some (zrv x4), some (zI x5), none, none, none]) rfl rfl ?_
            refine zA_push rfl rfl zkk24 ?_
            exact zA_tr (L := [some (zrv x0), some (zrv x1), some (zrv x2), some (zrv x3), some (zrv x4), some (zI x5), none, none, none]) rfl rfl (zmS291_2115 hk16 _ _ _ _ _ _ _ _ _ _ _ H)
          · refine zA_brF (c := x46 = 0) rfl rfl rfl c60 ?_
            refine zA_push rfl rfl zkk25 ?_
            refine zA_go rfl rfl ?_
            exact zA_tr (L := [some (zrv x0), some (zrv x1), some (zrv x2), some (zrv x3), some (zrv x4), some (zI x5), none, none, none]) rfl rfl (zmS291_2115 hk16 _ _ _ _ _ _ _ _ _ _ _ H)
        · refine zA_brT' (c := x31 = 0) rfl rfl rfl c50 ?_
          refine zA_tr (L := [some (zrv x0), some (zrv x1), some (zrv x2), some (zrv x3), some (zrv x4), some (zI x5), none, none, none]) rfl rfl ?_
          refine zA_go rfl rfl ?_
          exact zA_tr (L := [some (zrv x0), some (zrv x1), some (zrv x2), some (zrv x3), some (zrv x4), some (zI x5), none, none, none]) rfl rfl (zmS291_2349 hk16 _ _ _ _ _ _ _ _ _ H)
      · refine zA_brF (c := x48 = x31) rfl rfl rfl c49 ?_
        refine zA_push rfl rfl zkk7 ?_
        cases H
        exact zA_ret rfl (zret_Z (by decide))
    · cases H
      exact zA_callX (as := [zrv x2]) (st' := []) rfl rfl (zrcv_Q e43 c44) rfl (zmE137 _) rfl rfl rfl (zmS137 C)
  · cases H
    exact zA_callX (as := [zrv x2, zI v39]) (st' := []) rfl rfl (zrcv_Q e43 c44) rfl (zmE232 _ _) rfl rfl rfl (zmS232 C)
def zm291_2052 (k16 : zq → zq → zq → zq → zq → Int32 → zH → zRs Int32) (x0 : zq) (x1 : zq) (x2 : zq) (x3 : zq) (x4 : zq) (x5 : Int32) (x6 : Int32) (s0 : zq) (s1 : Int32) (s2 : Int32) (s3 : Int32) (h : zH) : zRs Int32 :=
  zri x0 (x5 + (4 : Int32)) h fun v28 =>
  zri x0 (x5 + (5 : Int32)) h fun v37 =>
  zob 12 s0 fun p39 i40 =>
  zb (zm231 s0 s1 s2 s3 v28 v37 h) fun x44 h43 =>
  zob 12 x2 fun p45 i46 =>
  zb (zm137 x2 h43) fun x50 h49 =>
  if x50 = x6 then
    if x6 = 0 then
      zrj x3 (0 : Int32) h49 fun v60 =>
      if (lg_cmp v60 (x44.toInt64)) = 0 then
        zm291_2349 k16 x0 x1 x2 x3 x4 x5 h49
      else
        some (.inl (0 : Int32), h49)
    else
      zm291_2349 k16 x0 x1 x2 x3 x4 x5 h49
  else
    some (.inl (0 : Int32), h49)
theorem zmS291_2052 {k16 : zq → zq → zq → zq → zq → Int32 → zH → zRs Int32} (hk16 : ∀ (x0 : zq) (x1 : zq) (x2 : zq) (x3 : zq) (x4 : zq) (x5 : Int32) (h : zH) (r : Int32 ⊕ Nat) (h' : zH), k16 x0 x1 x2 x3 x4 x5 h = some (r, h') → zAt 291 16 [some (zrv x0), some (zrv x1), some (zrv x2), some (zrv x3), some (zrv x4), some (zI x5), none, none, none] [] h (zoI r) h') : ∀ (x0 : zq) (x1 : zq) (x2 : zq) (x3 : zq) (x4 : zq) (x5 : Int32) (x6 : Int32) (s0 : zq) (s1 : Int32) (s2 : Int32) (s3 : Int32) (h : zH) (r : Int32 ⊕ Nat) (h' : zH), zm291_2052 k16 x0 x1 x2 x3 x4 x5 x6 s0 s1 s2 s3 h = some (r, h') → zAt 291 2052 [some (zrv x0), some (zrv x1), some (zrv x2), some (zrv x3), some (zrv x4), some (zI x5), some (zI x6), none, none] [zI s3, zI s2, zI s1, zrv s0] h (zoI r) h' := by
  intro x0 x1 x2 x3 x4 x5 x6 s0 s1 s2 s3 h r h' H
  unfold zm291_2052 at H
  refine zA_aldn rfl rfl rfl ?_
  refine zA_ld rfl rfl rfl ?_
  refine zA_push rfl rfl zkk9 ?_
  refine zA_st (st' := [zI (x5 + (4 : Int32)), zrv x0, zI s3, zI s2, zI s1, zrv s0]) rfl rfl rfl rfl ?_
  obtain ⟨p21, i22, j23, v28, e24, c25, c26, e27, e29, H⟩ := zri_e H
  refine zA_ial rfl rfl e24 c25 c26 e27 e29 ?_
  refine zA_aldn rfl rfl rfl ?_
  refine zA_ld rfl rfl rfl ?_
  refine zA_push rfl rfl zkk20 ?_
  refine zA_st (st' := [zI (x5 + (5 : Int32)), zrv x0, zI v28, zI s3, zI s2, zI s1, zrv s0]) rfl rfl rfl rfl ?_
  obtain ⟨p30, i31, j32, v37, e33, c34, c35, e36, e38, H⟩ := zri_e H
  refine zA_ial rfl rfl e33 c34 c35 e36 e38 ?_
  obtain ⟨p39, i40, e41, c42, H⟩ := zob_e H
  rcases zb_e H with ⟨x44, h43, C, H⟩ | ⟨E, h43, C, H⟩
  · refine zA_callV (as := [zrv s0, zI s1, zI s2, zI s3, zI v28, zI v37]) (st' := []) rfl rfl rfl (zrcv_Q e41 c42) rfl (zmE231 _ _ _ _ _ _) rfl (zmS231 C) ?_
    refine zA_ist2 rfl rfl rfl (zset1 (L' := [some (zrv x0), some (zrv x1), some (zrv x2), some (zrv x3), some (zrv x4), some (zI x5), some (zI x6), some (zI x44), none]) rfl rfl (zpcV rfl rfl)) ?_
    refine zA_aldn rfl rfl rfl ?_
    obtain ⟨p45, i46, e47, c48, H⟩ := zob_e H
    rcases zb_e H with ⟨x50, h49, C, H⟩ | ⟨E, h49, C, H⟩
    · refine zA_callV (as := [zrv x2]) (st' := []) rfl rfl rfl (zrcv_Q e47 c48) rfl (zmE137 _) rfl (zmS137 C) ?_
      refine zA_ld rfl rfl rfl ?_
      rcases zite_e H with ⟨c51, H⟩ | ⟨c51, H⟩
      · refine zA_brT (c := x50 = x6) rfl rfl rfl c51 ?_
        refine zA_ld rfl rfl rfl ?_
        rcases zite_e H with ⟨c52, H⟩ | ⟨c52, H⟩
        · refine zA_brF' (c := x6 = 0) rfl rfl rfl c52 ?_
          refine zA_aldn rfl rfl rfl ?_
          refine zA_push rfl rfl zkk7 ?_
          obtain ⟨p53, i54, j55, v60, e56, c57, c58, e59, e61, H⟩ := zrj_e H
          refine zA_lal rfl rfl e56 c57 c58 e59 e61 ?_
          refine zA_ld rfl rfl rfl ?_
          refine zA_st (st' := [zJ (x44.toInt64), zJ v60]) rfl rfl rfl rfl ?_
          refine zA_st (st' := [zI (lg_cmp v60 (x44.toInt64))]) rfl rfl rfl rfl ?_
          rcases zite_e H with ⟨c62, H⟩ | ⟨c62, H⟩
          · refine zA_brT (c := (lg_cmp v60 (x44.toInt64)) = 0) rfl rfl rfl c62 ?_
            refine zA_tr (L := [some (zrv x0), some (zrv x1), some (zrv x2), some (zrv x3), some (zrv x4), some (zI x5), none, none, none]) rfl rfl ?_
            refine zA_go rfl rfl ?_
            exact zA_tr (L := [some (zrv x0), some (zrv x1), some (zrv x2), some (zrv x3), some (zrv x4), some (zI x5), none, none, none]) rfl rfl (zmS291_2349 hk16 _ _ _ _ _ _ _ _ _ H)
          · refine zA_brF (c := (lg_cmp v60 (x44.toInt64)) = 0) rfl rfl rfl c62 ?_
            refine zA_push rfl rfl zkk7 ?_
            cases H
            exact zA_ret rfl (zret_Z (by decide))
        · refine zA_brT' (c := x6 = 0) rfl rfl rfl c52 ?_
          refine zA_tr (L := [some (zrv x0), some (zrv x1), some (zrv x2), some (zrv x3), some (zrv x4), some (zI x5), none, none, none]) rfl rfl ?_
          refine zA_go rfl rfl ?_
          exact zA_tr (L := [some (zrv x0), some (zrv x1), some (zrv x2), some (zrv x3), some (zrv x4), some (zI x5), none, none, none]) rfl rfl (zmS291_2349 hk16 _ _ _ _ _ _ _ _ _ H)
      · refine zA_brF (c := x50 = x6) rfl rfl rfl c51 ?_
        refine zA_push rfl rfl zkk7 ?_
        cases H
        exact zA_ret rfl (zret_Z (by decide))
    · cases H
      exact zA_callX (as := [zrv x2]) (st' := []) rfl rfl (zrcv_Q e47 c48) rfl (zmE137 _) rfl rfl rfl (zmS137 C)
  · cases H
    exact zA_callX (as := [zrv s0, zI s1, zI s2, zI s3, zI v28, zI v37]) (st' := []) rfl rfl (zrcv_Q e41 c42) rfl (zmE231 _ _ _ _ _ _) rfl rfl rfl (zmS231 C)
def zm291_2019 (k16 : zq → zq → zq → zq → zq → Int32 → zH → zRs Int32) (x0 : zq) (x1 : zq) (x2 : zq) (x3 : zq) (x4 : zq) (x5 : Int32) (s0 : zq) (s1 : Int32) (s2 : Int32) (s3 : Int32) (h : zH) : zRs Int32 :=
  zri x0 (x5 + (4 : Int32)) h fun v28 =>
  zri x0 (x5 + (5 : Int32)) h fun v37 =>
  zb2 (zm284 s0 s1 s2 s3 v28 v37 x3 h) fun x40 h39 =>
  zri x0 (x5 + (1 : Int32)) h39 fun v48 =>
  zri x0 (x5 + (2 : Int32)) h39 fun v57 =>
  zri x0 (x5 + (3 : Int32)) h39 fun v66 =>
  if v66 = 0 then
    zm291_2052 k16 x0 x1 x2 x3 x4 x5 x40 x2 v48 v57 (0 : Int32) h39
  else
    zm291_2052 k16 x0 x1 x2 x3 x4 x5 x40 x2 v48 v57 (1 : Int32) h39
theorem zmS291_2019 {k16 : zq → zq → zq → zq → zq → Int32 → zH → zRs Int32} (hk16 : ∀ (x0 : zq) (x1 : zq) (x2 : zq) (x3 : zq) (x4 : zq) (x5 : Int32) (h : zH) (r : Int32 ⊕ Nat) (h' : zH), k16 x0 x1 x2 x3 x4 x5 h = some (r, h') → zAt 291 16 [some (zrv x0), some (zrv x1), some (zrv x2), some (zrv x3), some (zrv x4), some (zI x5), none, none, none] [] h (zoI r) h') : ∀ (x0 : zq) (x1 : zq) (x2 : zq) (x3 : zq) (x4 : zq) (x5 : Int32) (s0 : zq) (s1 : Int32) (s2 : Int32) (s3 : Int32) (h : zH) (r : Int32 ⊕ Nat) (h' : zH), zm291_2019 k16 x0 x1 x2 x3 x4 x5 s0 s1 s2 s3 h = some (r, h') → zAt 291 2019 [some (zrv x0), some (zrv x1), some (zrv x2), some (zrv x3), some (zrv x4), some (zI x5), none, none, none] [zI s3, zI s2, zI s1, zrv s0] h (zoI r) h' := by
  intro x0 x1 x2 x3 x4 x5 s0 s1 s2 s3 h r h' H
  unfold zm291_2019 at H
  refine zA_aldn rfl rfl rfl ?_
  refine zA_ld rfl rfl rfl ?_
  refine zA_push rfl rfl zkk9 ?_
  refine zA_st (st' := [zI (x5 + (4 : Int32)), zrv x0, zI s3, zI s2, zI s1, zrv s0]) rfl rfl rfl rfl ?_
  obtain ⟨p21, i22, j23, v28, e24, c25, c26, e27, e29, H⟩ := zri_e H
  refine zA_ial rfl rfl e24 c25 c26 e27 e29 ?_
  refine zA_aldn rfl rfl rfl ?_
  refine zA_ld rfl rfl rfl ?_
  refine zA_push rfl rfl zkk20 ?_
  refine zA_st (st' := [zI (x5 + (5 : Int32)), zrv x0, zI v28, zI s3, zI s2, zI s1, zrv s0]) rfl rfl rfl rfl ?_
  obtain ⟨p30, i31, j32, v37, e33, c34, c35, e36, e38, H⟩ := zri_e H
  refine zA_ial rfl rfl e33 c34 c35 e36 e38 ?_
  refine zA_aldn rfl rfl rfl ?_
  obtain ⟨x40, h39, C, H⟩ := zb2_e H
  refine zA_callV (as := [zrv s0, zI s1, zI s2, zI s3, zI v28, zI v37, zrv x3]) (st' := []) rfl rfl rfl rfl rfl (zmE284 _ _ _ _ _ _ _) rfl (zmS284 C) ?_
  refine zA_ist2 rfl rfl rfl (zset1 (L' := [some (zrv x0), some (zrv x1), some (zrv x2), some (zrv x3), some (zrv x4), some (zI x5), some (zI x40), none, none]) rfl rfl (zpcV rfl rfl)) ?_
  refine zA_aldn rfl rfl rfl ?_
  refine zA_aldn rfl rfl rfl ?_
  refine zA_ld rfl rfl rfl ?_
  refine zA_push rfl rfl zkk5 ?_
  refine zA_st (st' := [zI (x5 + (1 : Int32)), zrv x0, zrv x2]) rfl rfl rfl rfl ?_
  obtain ⟨p41, i42, j43, v48, e44, c45, c46, e47, e49, H⟩ := zri_e H
  refine zA_ial rfl rfl e44 c45 c46 e47 e49 ?_
  refine zA_aldn rfl rfl rfl ?_
  refine zA_ld rfl rfl rfl ?_
  refine zA_push rfl rfl zkk23 ?_
  refine zA_st (st' := [zI (x5 + (2 : Int32)), zrv x0, zI v48, zrv x2]) rfl rfl rfl rfl ?_
  obtain ⟨p50, i51, j52, v57, e53, c54, c55, e56, e58, H⟩ := zri_e H
  refine zA_ial rfl rfl e53 c54 c55 e56 e58 ?_
  refine zA_aldn rfl rfl rfl ?_
  refine zA_ld rfl rfl rfl ?_
  refine zA_push rfl rfl zkk3 ?_
  refine zA_st (st' := [zI (x5 + (3 : Int32)), zrv x0, zI v57, zI v48, zrv x2]) rfl rfl rfl rfl ?_
  obtain ⟨p59, i60, j61, v66, e62, c63, c64, e65, e67, H⟩ := zri_e H
  refine zA_ial rfl rfl e62 c63 c64 e65 e67 ?_
  rcases zite_e H with ⟨c68, H⟩ | ⟨c68, H⟩
  · refine zA_brT (c := v66 = 0) rfl rfl rfl c68 ?_
    refine zA_push rfl rfl zkk7 ?_
    exact zA_tr (L := [some (zrv x0), some (zrv x1), some (zrv x2), some (zrv x3), some (zrv x4), some (zI x5), some (zI x40), none, none]) rfl rfl (zmS291_2052 hk16 _ _ _ _ _ _ _ _ _ _ _ _ _ _ H)
  · refine zA_brF (c := v66 = 0) rfl rfl rfl c68 ?_
    refine zA_push rfl rfl zkk5 ?_
    refine zA_go rfl rfl ?_
    exact zA_tr (L := [some (zrv x0), some (zrv x1), some (zrv x2), some (zrv x3), some (zrv x4), some (zI x5), some (zI x40), none, none]) rfl rfl (zmS291_2052 hk16 _ _ _ _ _ _ _ _ _ _ _ _ _ _ H)
def zm291_1999 (k16 : zq → zq → zq → zq → zq → Int32 → zH → zRs Int32) (x0 : zq) (x1 : zq) (x2 : zq) (x3 : zq) (x4 : zq) (x5 : Int32) (h : zH) : zRs Int32 :=
  zri x0 (x5 + (1 : Int32)) h fun v28 =>
  zri x0 (x5 + (2 : Int32)) h fun v37 =>
  zri x0 (x5 + (3 : Int32)) h fun v46 =>
  if v46 = 0 then
    zm291_2019 k16 x0 x1 x2 x3 x4 x5 x1 v28 v37 (0 : Int32) h
  else
    zm291_2019 k16 x0 x1 x2 x3 x4 x5 x1 v28 v37 (1 : Int32) h
theorem zmS291_1999 {k16 : zq → zq → zq → zq → zq → Int32 → zH → zRs Int32} (hk16 : ∀ (x0 : zq) (x1 : zq) (x2 : zq) (x3 : zq) (x4 : zq) (x5 : Int32) (h : zH) (r : Int32 ⊕ Nat) (h' : zH), k16 x0 x1 x2 x3 x4 x5 h = some (r, h') → zAt 291 16 [some (zrv x0), some (zrv x1), some (zrv x2), some (zrv x3), some (zrv x4), some (zI x5), none, none, none] [] h (zoI r) h') : ∀ (x0 : zq) (x1 : zq) (x2 : zq) (x3 : zq) (x4 : zq) (x5 : Int32) (h : zH) (r : Int32 ⊕ Nat) (h' : zH), zm291_1999 k16 x0 x1 x2 x3 x4 x5 h = some (r, h') → zAt 291 1999 [some (zrv x0), some (zrv x1), some (zrv x2), some (zrv x3), some (zrv x4), some (zI x5), none, none, none] [] h (zoI r) h' := by
  intro x0 x1 x2 x3 x4 x5 h r h' H
  unfold zm291_1999 at H
  refine zA_aldn rfl rfl rfl ?_
  refine zA_aldn rfl rfl rfl ?_
  refine zA_ld rfl rfl rfl ?_
  refine zA_push rfl rfl zkk5 ?_
  refine zA_st (st' := [zI (x5 + (1 : Int32)), zrv x0, zrv x1]) rfl rfl rfl rfl ?_
  obtain ⟨p21, i22, j23, v28, e24, c25, c26, e27, e29, H⟩ := zri_e H
  refine zA_ial rfl rfl e24 c25 c26 e27 e29 ?_
  refine zA_aldn rfl rfl rfl ?_
  refine zA_ld rfl rfl rfl ?_
  refine zA_push rfl rfl zkk23 ?_
  refine zA_st (st' := [zI (x5 + (2 : Int32)), zrv x0, zI v28, zrv x1]) rfl rfl rfl rfl ?_
  obtain ⟨p30, i31, j32, v37, e33, c34, c35, e36, e38, H⟩ := zri_e H
  refine zA_ial rfl rfl e33 c34 c35 e36 e38 ?_
  refine zA_aldn rfl rfl rfl ?_
  refine zA_ld rfl rfl rfl ?_
  refine zA_push rfl rfl zkk3 ?_
  refine zA_st (st' := [zI (x5 + (3 : Int32)), zrv x0, zI v37, zI v28, zrv x1]) rfl rfl rfl rfl ?_
  obtain ⟨p39, i40, j41, v46, e42, c43, c44, e45, e47, H⟩ := zri_e H
  refine zA_ial rfl rfl e42 c43 c44 e45 e47 ?_
  rcases zite_e H with ⟨c48, H⟩ | ⟨c48, H⟩
  · refine zA_brT (c := v46 = 0) rfl rfl rfl c48 ?_
    refine zA_push rfl rfl zkk7 ?_
    exact zA_tr (L := [some (zrv x0), some (zrv x1), some (zrv x2), some (zrv x3), some (zrv x4), some (zI x5), none, none, none]) rfl rfl (zmS291_2019 hk16 _ _ _ _ _ _ _ _ _ _ _ _ _ H)
  · refine zA_brF (c := v46 = 0) rfl rfl rfl c48 ?_
    refine zA_push rfl rfl zkk5 ?_
    refine zA_go rfl rfl ?_
    exact zA_tr (L := [some (zrv x0), some (zrv x1), some (zrv x2), some (zrv x3), some (zrv x4), some (zI x5), none, none, none]) rfl rfl (zmS291_2019 hk16 _ _ _ _ _ _ _ _ _ _ _ _ _ H)
def zm291_1957 (k16 : zq → zq → zq → zq → zq → Int32 → zH → zRs Int32) (x0 : zq) (x1 : zq) (x2 : zq) (x3 : zq) (x4 : zq) (x5 : Int32) (h : zH) : zRs Int32 :=
  zri x0 (x5 + (1 : Int32)) h fun v28 =>
  zri x0 (x5 + (2 : Int32)) h fun v37 =>
  zri x0 (x5 + (3 : Int32)) h fun v46 =>
  zb2 (zm283 x1 v28 v37 v46 h) fun x49 h48 =>
  zri x0 (x5 + (1 : Int32)) h48 fun v57 =>
  zri x0 (x5 + (2 : Int32)) h48 fun v66 =>
  zri x0 (x5 + (3 : Int32)) h48 fun v75 =>
  zob 12 x2 fun p77 i78 =>
  zb (zm230 x2 v57 v66 v75 h48) fun _ h81 =>
  zb (zm137 x2 h81) fun x83 h82 =>
  if x83 = x49 then
    zm291_2349 k16 x0 x1 x2 x3 x4 x5 h82
  else
    some (.inl (0 : Int32), h82)
theorem zmS291_1957 {k16 : zq → zq → zq → zq → zq → Int32 → zH → zRs Int32} (hk16 : ∀ (x0 : zq) (x1 : zq) (x2 : zq) (x3 : zq) (x4 : zq) (x5 : Int32) (h : zH) (r : Int32 ⊕ Nat) (h' : zH), k16 x0 x1 x2 x3 x4 x5 h = some (r, h') → zAt 291 16 [some (zrv x0), some (zrv x1), some (zrv x2), some (zrv x3), some (zrv x4), some (zI x5), none, none, none] [] h (zoI r) h') : ∀ (x0 : zq) (x1 : zq) (x2 : zq) (x3 : zq) (x4 : zq) (x5 : Int32) (h : zH) (r : Int32 ⊕ Nat) (h' : zH), zm291_1957 k16 x0 x1 x2 x3 x4 x5 h = some (r, h') → zAt 291 1957 [some (zrv x0), some (zrv x1), some (zrv x2), some (zrv x3), some (zrv x4), some (zI x5), none, none, none] [] h (zoI r) h' := by
  intro x0 x1 x2 x3 x4 x5 h r h' H
  unfold zm291_1957 at H
  refine zA_aldn rfl rfl rfl ?_
  refine zA_aldn rfl rfl rfl ?_
  refine zA_ld rfl rfl rfl ?_
  refine zA_push rfl rfl zkk5 ?_
  refine zA_st (st' := [zI (x5 + (1 : Int32)), zrv x0, zrv x1]) rfl rfl rfl rfl ?_
  obtain ⟨p21, i22, j23, v28, e24, c25, c26, e27, e29, H⟩ := zri_e H
  refine zA_ial rfl rfl e24 c25 c26 e27 e29 ?_
  refine zA_aldn rfl rfl rfl ?_
  refine zA_ld rfl rfl rfl ?_
  refine zA_push rfl rfl zkk23 ?_
  refine zA_st (st' := [zI (x5 + (2 : Int32)), zrv x0, zI v28, zrv x1]) rfl rfl rfl rfl ?_
  obtain ⟨p30, i31, j32, v37, e33, c34, c35, e36, e38, H⟩ := zri_e H
  refine zA_ial rfl rfl e33 c34 c35 e36 e38 ?_
  refine zA_aldn rfl rfl rfl ?_
  refine zA_ld rfl rfl rfl ?_
  refine zA_push rfl rfl zkk3 ?_
  refine zA_st (st' := [zI (x5 + (3 : Int32)), zrv x0, zI v37, zI v28, zrv x1]) rfl rfl rfl rfl ?_
  obtain ⟨p39, i40, j41, v46, e42, c43, c44, e45, e47, H⟩ := zri_e H
  refine zA_ial rfl rfl e42 c43 c44 e45 e47 ?_
  obtain ⟨x49, h48, C, H⟩ := zb2_e H
  refine zA_callV (as := [zrv x1, zI v28, zI v37, zI v46]) (st' := []) rfl rfl rfl rfl rfl (zmE283 _ _ _ _) rfl (zmS283 C) ?_
  refine zA_ist2 rfl rfl rfl (zset1 (L' := [some (zrv x0), some (zrv x1), some (zrv x2), some (zrv x3), some (zrv x4), some (zI x5), some (zI x49), none, none]) rfl rfl (zpcV rfl rfl)) ?_
  refine zA_aldn rfl rfl rfl ?_
  refine zA_aldn rfl rfl rfl ?_
  refine zA_ld rfl rfl rfl ?_
  refine zA_push rfl rfl zkk5 ?_
  refine zA_st (st' := [zI (x5 + (1 : Int32)), zrv x0, zrv x2]) rfl rfl rfl rfl ?_
  obtain ⟨p50, i51, j52, v57, e53, c54, c55, e56, e58, H⟩ := zri_e H
  refine zA_ial rfl rfl e53 c54 c55 e56 e58 ?_
  refine zA_aldn rfl rfl rfl ?_
  refine zA_ld rfl rfl rfl ?_
  refine zA_push rfl rfl zkk23 ?_
  refine zA_st (st' := [zI (x5 + (2 : Int32)), zrv x0, zI v57, zrv x2]) rfl rfl rfl rfl ?_
  obtain ⟨p59, i60, j61, v66, e62, c63, c64, e65, e67, H⟩ := zri_e H
  refine zA_ial rfl rfl e62 c63 c64 e65 e67 ?_
  refine zA_aldn rfl rfl rfl ?_
  refine zA_ld rfl rfl rfl ?_
  refine zA_push rfl rfl zkk3 ?_
  refine zA_st (st' := [zI (x5 + (3 : Int32)), zrv x0, zI v66, zI v57, zrv x2]) rfl rfl rfl rfl ?_
  obtain ⟨p68, i69, j70, v75, e71, c72, c73, e74, e76, H⟩ := zri_e H
  refine zA_ial rfl rfl e71 c72 c73 e74 e76 ?_
  obtain ⟨p77, i78, e79, c80, H⟩ := zob_e H
  rcases zb_e H with ⟨u85, h81, C, H⟩ | ⟨E, h81, C, H⟩
  · refine zA_callU (as := [zrv x2, zI v57, zI v66, zI v75]) (st' := []) rfl rfl rfl (zrcv_Q e79 c80) rfl (zmE230 _ _ _ _) rfl (zmS230 C) ?_
    refine zA_aldn rfl rfl rfl ?_
    rcases zb_e H with ⟨x83, h82, C, H⟩ | ⟨E, h82, C, H⟩
    · refine zA_callV (as := [zrv x2]) (st' := []) rfl rfl rfl (zrcv_Q e79 c80) rfl (zmE137 _) rfl (zmS137 C) ?_
      refine zA_ld rfl rfl rfl ?_
      rcases zite_e H with ⟨c84, H⟩ | ⟨c84, H⟩
      · refine zA_brT (c := x83 = x49) rfl rfl rfl c84 ?_
        refine zA_tr (L := [some (zrv x0), some (zrv x1), some (zrv x2), some (zrv x3), some (zrv x4), some (zI x5), none, none, none]) rfl rfl ?_
        refine zA_go rfl rfl ?_
        exact zA_tr (L := [some (zrv x0), some (zrv x1), some (zrv x2), some (zrv x3), some (zrv x4), some (zI x5), none, none, none]) rfl rfl (zmS291_2349 hk16 _ _ _ _ _ _ _ _ _ H)
      · refine zA_brF (c := x83 = x49) rfl rfl rfl c84 ?_
        refine zA_push rfl rfl zkk7 ?_
        cases H
        exact zA_ret rfl (zret_Z (by decide))
    · cases H
      exact zA_callX (as := [zrv x2]) (st' := []) rfl rfl (zrcv_Q e79 c80) rfl (zmE137 _) rfl rfl rfl (zmS137 C)
  · cases H
    exact zA_callX (as := [zrv x2, zI v57, zI v66, zI v75]) (st' := []) rfl rfl (zrcv_Q e79 c80) rfl (zmE230 _ _ _ _) rfl rfl rfl (zmS230 C)
def zm291_1922 (k16 : zq → zq → zq → zq → zq → Int32 → zH → zRs Int32) (x0 : zq) (x1 : zq) (x2 : zq) (x3 : zq) (x4 : zq) (x5 : Int32) (h : zH) : zRs Int32 :=
  zri x0 (x5 + (1 : Int32)) h fun v28 =>
  zb2 (zm282 x1 v28 x3 h) fun x31 h30 =>
  zri x0 (x5 + (1 : Int32)) h30 fun v39 =>
  zob 12 x2 fun p41 i42 =>
  zb (zm228 x2 v39 h30) fun x46 h45 =>
  zb (zm137 x2 h45) fun x48 h47 =>
  if x48 = x31 then
    if x31 = 0 then
      zrj x3 (0 : Int32) h47 fun v58 =>
      if (lg_cmp v58 (x46.toInt64)) = 0 then
        zm291_2349 k16 x0 x1 x2 x3 x4 x5 h47
      else
        some (.inl (0 : Int32), h47)
    else
      zm291_2349 k16 x0 x1 x2 x3 x4 x5 h47
  else
    some (.inl (0 : Int32), h47)
theorem zmS291_1922 {k16 : zq → zq → zq → zq → zq → Int32 → zH → zRs Int32} (hk16 : ∀ (x0 : zq) (x1 : zq) (x2 : zq) (x3 : zq) (x4 : zq) (x5 : Int32) (h : zH) (r : Int32 ⊕ Nat) (h' : zH), k16 x0 x1 x2 x3 x4 x5 h = some (r, h') → zAt 291 16 [some (zrv x0), some (zrv x1), some (zrv x2), some (zrv x3), some (zrv x4), some (zI x5), none, none, none] [] h (zoI r) h') : ∀ (x0 : zq) (x1 : zq) (x2 : zq) (x3 : zq) (x4 : zq) (x5 : Int32) (h : zH) (r : Int32 ⊕ Nat) (h' : zH), zm291_1922 k16 x0 x1 x2 x3 x4 x5 h = some (r, h') → zAt 291 1922 [some (zrv x0), some (zrv x1), some (zrv x2), some (zrv x3), some (zrv x4), some (zI x5), none, none, none] [] h (zoI r) h' := by
  intro x0 x1 x2 x3 x4 x5 h r h' H
  unfold zm291_1922 at H
  refine zA_aldn rfl rfl rfl ?_
  refine zA_aldn rfl rfl rfl ?_
  refine zA_ld rfl rfl rfl ?_
  refine zA_push rfl rfl zkk5 ?_
  refine zA_st (st' := [zI (x5 + (1 : Int32)), zrv x0, zrv x1]) rfl rfl rfl rfl ?_
  obtain ⟨p21, i22, j23, v28, e24, c25, c26, e27, e29, H⟩ := zri_e H
  refine zA_ial rfl rfl e24 c25 c26 e27 e29 ?_
  refine zA_aldn rfl rfl rfl ?_
  obtain ⟨x31, h30, C, H⟩ := zb2_e H
  refine zA_callV (as := [zrv x1, zI v28, zrv x3]) (st' := []) rfl rfl rfl rfl rfl (zmE282 _ _ _) rfl (zmS282 C) ?_
  refine zA_ist2 rfl rfl rfl (zset1 (L' := [some (zrv x0), some (zrv x1), some (zrv x2), some (zrv x3), some (zrv x4), some (zI x5), some (zI x31), none, none]) rfl rfl (zpcV rfl rfl)) ?_
  refine zA_aldn rfl rfl rfl ?_
  refine zA_aldn rfl rfl rfl ?_
  refine zA_ld rfl rfl rfl ?_
  refine zA_push rfl rfl zkk5 ?_
  refine zA_st (st' := [zI (x5 + (1 : Int32)), zrv x0, zrv x2]) rfl rfl rfl rfl ?_
  obtain ⟨p32, i33, j34, v39, e35, c36, c37, e38, e40, H⟩ := zri_e H
  refine zA_ial rfl rfl e35 c36 c37 e38 e40 ?_
  obtain ⟨p41, i42, e43, c44, H⟩ := zob_e H
  rcases zb_e H with ⟨x46, h45, C, H⟩ | ⟨E, h45, C, H⟩
  · refine zA_callV (as := [zrv x2, zI v39]) (st' := []) rfl rfl rfl (zrcv_Q e43 c44) rfl (zmE228 _ _) rfl (zmS228 C) ?_
    refine zA_ist2 rfl rfl rfl (zset1 (L' := [some (zrv x0), some (zrv x1), some (zrv x2), some (zrv x3), some (zrv x4), some (zI x5), some (zI x31), some (zI x46), none]) rfl rfl (zpcV rfl rfl)) ?_
    refine zA_aldn rfl rfl rfl ?_
    rcases zb_e H with ⟨x48, h47, C, H⟩ | ⟨E, h47, C, H⟩
    · refine zA_callV (as := [zrv x2]) (st' := []) rfl rfl rfl (zrcv_Q e43 c44) rfl (zmE137 _) rfl (zmS137 C) ?_
      refine zA_ld rfl rfl rfl ?_
      rcases zite_e H with ⟨c49, H⟩ | ⟨c49, H⟩
      · refine zA_brT (c := x48 = x31) rfl rfl rfl c49 ?_
        refine zA_ld rfl rfl rfl ?_
        rcases zite_e H with ⟨c50, H⟩ | ⟨c50, H⟩
        · refine zA_brF' (c := x31 = 0) rfl rfl rfl c50 ?_
          refine zA_aldn rfl rfl rfl ?_
          refine zA_push rfl rfl zkk7 ?_
          obtain ⟨p51, i52, j53, v58, e54, c55, c56, e57, e59, H⟩ := zrj_e H
          refine zA_lal rfl rfl e54 c55 c56 e57 e59 ?_
          refine zA_ld rfl rfl rfl ?_
          refine zA_st (st' := [zJ (x46.toInt64), zJ v58]) rfl rfl rfl rfl ?_
          refine zA_st (st' := [zI (lg_cmp v58 (x46.toInt64))]) rfl rfl rfl rfl ?_
          rcases zite_e H with ⟨c60, H⟩ | ⟨c60, H⟩
          · refine zA_brT (c := (lg_cmp v58 (x46.toInt64)) = 0) rfl rfl rfl c60 ?_
            refine zA_tr (L := [some (zrv x0), some (zrv x1), some (zrv x2), some (zrv x3), some (zrv x4), some (zI x5), none, none, none]) rfl rfl ?_
            refine zA_go rfl rfl ?_
            exact zA_tr (L := [some (zrv x0), some (zrv x1), some (zrv x2), some (zrv x3), some (zrv x4), some (zI x5), none, none, none]) rfl rfl (zmS291_2349 hk16 _ _ _ _ _ _ _ _ _ H)
          · refine zA_brF (c := (lg_cmp v58 (x46.toInt64)) = 0) rfl rfl rfl c60 ?_
            refine zA_push rfl rfl zkk7 ?_
            cases H
            exact zA_ret rfl (zret_Z (by decide))
        · refine zA_brT' (c := x31 = 0) rfl rfl rfl c50 ?_
          refine zA_tr (L := [some (zrv x0), some (zrv x1), some (zrv x2), some (zrv x3), some (zrv x4), some (zI x5), none, none, none]) rfl rfl ?_
          refine zA_go rfl rfl ?_
          exact zA_tr (L := [some (zrv x0), some (zrv x1), some (zrv x2), some (zrv x3), some (zrv x4), some (zI x5), none, none, none]) rfl rfl (zmS291_2349 hk16 _ _ _ _ _ _ _ _ _ H)
      · refine zA_brF (c := x48 = x31) rfl rfl rfl c49 ?_
        refine zA_push rfl rfl zkk7 ?_
        cases H
        exact zA_ret rfl (zret_Z (by decide))
    · cases H
      exact zA_callX (as := [zrv x2]) (st' := []) rfl rfl (zrcv_Q e43 c44) rfl (zmE137 _) rfl rfl rfl (zmS137 C)
  · cases H
    exact zA_callX (as := [zrv x2, zI v39]) (st' := []) rfl rfl (zrcv_Q e43 c44) rfl (zmE228 _ _) rfl rfl rfl (zmS228 C)
def zm291_1877 (k16 : zq → zq → zq → zq → zq → Int32 → zH → zRs Int32) (x0 : zq) (x1 : zq) (x2 : zq) (x3 : zq) (x4 : zq) (x5 : Int32) (h : zH) : zRs Int32 :=
  zri x0 (x5 + (1 : Int32)) h fun v28 =>
  zri x0 (x5 + (2 : Int32)) h fun v37 =>
  zb2 (zm281 x1 v28 v37 x3 h) fun x40 h39 =>
  zri x0 (x5 + (1 : Int32)) h39 fun v48 =>
  zri x0 (x5 + (2 : Int32)) h39 fun v57 =>
  zob 12 x2 fun p59 i60 =>
  zb (zm227 x2 v48 v57 h39) fun x64 h63 =>
  zb (zm137 x2 h63) fun x66 h65 =>
  if x66 = x40 then
    if x40 = 0 then
      zrj x3 (0 : Int32) h65 fun v76 =>
      if (lg_cmp v76 (x64.toInt64)) = 0 then
        zm291_2349 k16 x0 x1 x2 x3 x4 x5 h65
      else
        some (.inl (0 : Int32), h65)
    else
      zm291_2349 k16 x0 x1 x2 x3 x4 x5 h65
  else
    some (.inl (0 : Int32), h65)
theorem zmS291_1877 {k16 : zq → zq → zq → zq → zq → Int32 → zH → zRs Int32} (hk16 : ∀ (x0 : zq) (x1 : zq) (x2 : zq) (x3 : zq) (x4 : zq) (x5 : Int32) (h : zH) (r : Int32 ⊕ Nat) (h' : zH), k16 x0 x1 x2 x3 x4 x5 h = some (r, h') → zAt 291 16 [some (zrv x0), some (zrv x1), some (zrv x2), some (zrv x3), some (zrv x4), some (zI x5), none, none, none] [] h (zoI r) h') : ∀ (x0 : zq) (x1 : zq) (x2 : zq) (x3 : zq) (x4 : zq) (x5 : Int32) (h : zH) (r : Int32 ⊕ Nat) (h' : zH), zm291_1877 k16 x0 x1 x2 x3 x4 x5 h = some (r, h') → zAt 291 1877 [some (zrv x0), some (zrv x1), some (zrv x2), some (zrv x3), some (zrv x4), some (zI x5), none, none, none] [] h (zoI r) h' := by
  intro x0 x1 x2 x3 x4 x5 h r h' H
  unfold zm291_1877 at H
  refine zA_aldn rfl rfl rfl ?_
  refine zA_aldn rfl rfl rfl ?_
  refine zA_ld rfl rfl rfl ?_
  refine zA_push rfl rfl zkk5 ?_
  refine zA_st (st' := [zI (x5 + (1 : Int32)), zrv x0, zrv x1]) rfl rfl rfl rfl ?_
  obtain ⟨p21, i22, j23, v28, e24, c25, c26, e27, e29, H⟩ := zri_e H
  refine zA_ial rfl rfl e24 c25 c26 e27 e29 ?_
  refine zA_aldn rfl rfl rfl ?_
  refine zA_ld rfl rfl rfl ?_
  refine zA_push rfl rfl zkk23 ?_
  refine zA_st (st' := [zI (x5 + (2 : Int32)), zrv x0, zI v28, zrv x1]) rfl rfl rfl rfl ?_
  obtain ⟨p30, i31, j32, v37, e33, c34, c35, e36, e38, H⟩ := zri_e H
  refine zA_ial rfl rfl e33 c34 c35 e36 e38 ?_
  refine zA_aldn rfl rfl rfl ?_
  obtain ⟨x40, h39, C, H⟩ := zb2_e H
  refine zA_callV (as := [zrv x1, zI v28, zI v37, zrv x3]) (st' := []) rfl rfl rfl rfl rfl (zmE281 _ _ _ _) rfl (zmS281 C) ?_
  refine zA_ist2 rfl rfl rfl (zset1 (L' := [some (zrv x0), some (zrv x1), some (zrv x2), some (zrv x3), some (zrv x4), some (zI x5), some (zI x40), none, none]) rfl rfl (zpcV rfl rfl)) ?_
  refine zA_aldn rfl rfl rfl ?_
  refine zA_aldn rfl rfl rfl ?_
  refine zA_ld rfl rfl rfl ?_
  refine zA_push rfl rfl zkk5 ?_
  refine zA_st (st' := [zI (x5 + (1 : Int32)), zrv x0, zrv x2]) rfl rfl rfl rfl ?_
  obtain ⟨p41, i42, j43, v48, e44, c45, c46, e47, e49, H⟩ := zri_e H
  refine zA_ial rfl rfl e44 c45 c46 e47 e49 ?_
  refine zA_aldn rfl rfl rfl ?_
  refine zA_ld rfl rfl rfl ?_
  refine zA_push rfl rfl zkk23 ?_
  refine zA_st (st' := [zI (x5 + (2 : Int32)), zrv x0, zI v48, zrv x2]) rfl rfl rfl rfl ?_
  obtain ⟨p50, i51, j52, v57, e53, c54, c55, e56, e58, H⟩ := zri_e H
  refine zA_ial rfl rfl e53 c54 c55 e56 e58 ?_
  obtain ⟨p59, i60, e61, c62, H⟩ := zob_e H
  rcases zb_e H with ⟨x64, h63, C, H⟩ | ⟨E, h63, C, H⟩
  · refine zA_callV (as := [zrv x2, zI v48, zI v57]) (st' := []) rfl rfl rfl (zrcv_Q e61 c62) rfl (zmE227 _ _ _) rfl (zmS227 C) ?_
    refine zA_ist2 rfl rfl rfl (zset1 (L' := [some (zrv x0), some (zrv x1), some (zrv x2), some (zrv x3), some (zrv x4), some (zI x5), some (zI x40), some (zI x64), none]) rfl rfl (zpcV rfl rfl)) ?_
    refine zA_aldn rfl rfl rfl ?_
    rcases zb_e H with ⟨x66, h65, C, H⟩ | ⟨E, h65, C, H⟩
    · refine zA_callV (as := [zrv x2]) (st' := []) rfl rfl rfl (zrcv_Q e61 c62) rfl (zmE137 _) rfl (zmS137 C) ?_
      refine zA_ld rfl rfl rfl ?_
      rcases zite_e H with ⟨c67, H⟩ | ⟨c67, H⟩
      · refine zA_brT (c := x66 = x40) rfl rfl rfl c67 ?_
        refine zA_ld rfl rfl rfl ?_
        rcases zite_e H with ⟨c68, H⟩ | ⟨c68, H⟩
        · refine zA_brF' (c := x40 = 0) rfl rfl rfl c68 ?_
          refine zA_aldn rfl rfl rfl ?_
          refine zA_push rfl rfl zkk7 ?_
          obtain ⟨p69, i70, j71, v76, e72, c73, c74, e75, e77, H⟩ := zrj_e H
          refine zA_lal rfl rfl e72 c73 c74 e75 e77 ?_
          refine zA_ld rfl rfl rfl ?_
          refine zA_st (st' := [zJ (x64.toInt64), zJ v76]) rfl rfl rfl rfl ?_
          refine zA_st (st' := [zI (lg_cmp v76 (x64.toInt64))]) rfl rfl rfl rfl ?_
          rcases zite_e H with ⟨c78, H⟩ | ⟨c78, H⟩
          · refine zA_brT (c := (lg_cmp v76 (x64.toInt64)) = 0) rfl rfl rfl c78 ?_
            refine zA_tr (L := [some (zrv x0), some (zrv x1), some (zrv x2), some (zrv x3), some (zrv x4), some (zI x5), none, none, none]) rfl rfl ?_
            refine zA_go rfl rfl ?_
            exact zA_tr (L := [some (zrv x0), some (zrv x1), some (zrv x2), some (zrv x3), some (zrv x4), some (zI x5), none, none, none]) rfl rfl (zmS291_2349 hk16 _ _ _ _ _ _ _ _ _ H)
          · refine zA_brF (c := (lg_cmp v76 (x64.toInt64)) = 0) rfl rfl rfl c78 ?_
            refine zA_push rfl rfl zkk7 ?_
            cases H
            exact zA_ret rfl (zret_Z (by decide))
        · refine zA_brT' (c := x40 = 0) rfl rfl rfl c68 ?_
          refine zA_tr (L := [some (zrv x0), some (zrv x1), some (zrv x2), some (zrv x3), some (zrv x4), some (zI x5), none, none, none]) rfl rfl ?_
          refine zA_go rfl rfl ?_
          exact zA_tr (L := [some (zrv x0), some (zrv x1), some (zrv x2), some (zrv x3), some (zrv x4), some (zI x5), none, none, none]) rfl rfl (zmS291_2349 hk16 _ _ _ _ _ _ _ _ _ H)
      · refine zA_brF (c := x66 = x40) rfl rfl rfl c67 ?_
        refine zA_push rfl rfl zkk7 ?_
        cases H
        exact zA_ret rfl (zret_Z (by decide))
    · cases H
      exact zA_callX (as := [zrv x2]) (st' := []) rfl rfl (zrcv_Q e61 c62) rfl (zmE137 _) rfl rfl rfl (zmS137 C)
  · cases H
    exact zA_callX (as := [zrv x2, zI v48, zI v57]) (st' := []) rfl rfl (zrcv_Q e61 c62) rfl (zmE227 _ _ _) rfl rfl rfl (zmS227 C)
def zm291_1842 (k16 : zq → zq → zq → zq → zq → Int32 → zH → zRs Int32) (x0 : zq) (x1 : zq) (x2 : zq) (x3 : zq) (x4 : zq) (x5 : Int32) (h : zH) : zRs Int32 :=
  zri x0 (x5 + (1 : Int32)) h fun v28 =>
  zb2 (zm280 x1 v28 x3 h) fun x31 h30 =>
  zri x0 (x5 + (1 : Int32)) h30 fun v39 =>
  zob 12 x2 fun p41 i42 =>
  zb (zm225 x2 v39 h30) fun x46 h45 =>
  zb (zm137 x2 h45) fun x48 h47 =>
  if x48 = x31 then
    if x31 = 0 then
      zrj x3 (0 : Int32) h47 fun v58 =>
      if (lg_cmp v58 (x46.toInt64)) = 0 then
        zm291_2349 k16 x0 x1 x2 x3 x4 x5 h47
      else
        some (.inl (0 : Int32), h47)
    else
      zm291_2349 k16 x0 x1 x2 x3 x4 x5 h47
  else
    some (.inl (0 : Int32), h47)
theorem zmS291_1842 {k16 : zq → zq → zq → zq → zq → Int32 → zH → zRs Int32} (hk16 : ∀ (x0 : zq) (x1 : zq) (x2 : zq) (x3 : zq) (x4 : zq) (x5 : Int32) (h : zH) (r : Int32 ⊕ Nat) (h' : zH), k16 x0 x1 x2 x3 x4 x5 h = some (r, h') → zAt 291 16 [some (zrv x0), some (zrv x1), some (zrv x2), some (zrv x3), some (zrv x4), some (zI x5), none, none, none] [] h (zoI r) h') : ∀ (x0 : zq) (x1 : zq) (x2 : zq) (x3 : zq) (x4 : zq) (x5 : Int32) (h : zH) (r : Int32 ⊕ Nat) (h' : zH), zm291_1842 k16 x0 x1 x2 x3 x4 x5 h = some (r, h') → zAt 291 1842 [some (zrv x0), some (zrv x1), some (zrv x2), some (zrv x3), some (zrv x4), some (zI x5), none, none, none] [] h (zoI r) h' := by
  intro x0 x1 x2 x3 x4 x5 h r h' H
  unfold zm291_1842 at H
  refine zA_aldn rfl rfl rfl ?_
  refine zA_aldn rfl rfl rfl ?_
  refine zA_ld rfl rfl rfl ?_
  refine zA_push rfl rfl zkk5 ?_
  refine zA_st (st' := [zI (x5 + (1 : Int32)), zrv x0, zrv x1]) rfl rfl rfl rfl ?_
  obtain ⟨p21, i22, j23, v28, e24, c25, c26, e27, e29, H⟩ := zri_e H
  refine zA_ial rfl rfl e24 c25 c26 e27 e29 ?_
  refine zA_aldn rfl rfl rfl ?_
  obtain ⟨x31, h30, C, H⟩ := zb2_e H
  refine zA_callV (as := [zrv x1, zI v28, zrv x3]) (st' := []) rfl rfl rfl rfl rfl (zmE280 _ _ _) rfl (zmS280 C) ?_
  refine zA_ist2 rfl rfl rfl (zset1 (L' := [some (zrv x0), some (zrv x1), some (zrv x2), some (zrv x3), some (zrv x4), some (zI x5), some (zI x31), none, none]) rfl rfl (zpcV rfl rfl)) ?_
  refine zA_aldn rfl rfl rfl ?_
  refine zA_aldn rfl rfl rfl ?_
  refine zA_ld rfl rfl rfl ?_
  refine zA_push rfl rfl zkk5 ?_
  refine zA_st (st' := [zI (x5 + (1 : Int32)), zrv x0, zrv x2]) rfl rfl rfl rfl ?_
  obtain ⟨p32, i33, j34, v39, e35, c36, c37, e38, e40, H⟩ := zri_e H
  refine zA_ial rfl rfl e35 c36 c37 e38 e40 ?_
  obtain ⟨p41, i42, e43, c44, H⟩ := zob_e H
  rcases zb_e H with ⟨x46, h45, C, H⟩ | ⟨E, h45, C, H⟩
  · refine zA_callV (as := [zrv x2, zI v39]) (st' := []) rfl rfl rfl (zrcv_Q e43 c44) rfl (zmE225 _ _) rfl (zmS225 C) ?_
    refine zA_ist2 rfl rfl rfl (zset1 (L' := [some (zrv x0), some (zrv x1), some (zrv x2), some (zrv x3), some (zrv x4), some (zI x5), some (zI x31), some (zI x46), none]) rfl rfl (zpcV rfl rfl)) ?_
    refine zA_aldn rfl rfl rfl ?_
    rcases zb_e H with ⟨x48, h47, C, H⟩ | ⟨E, h47, C, H⟩
    · refine zA_callV (as := [zrv x2]) (st' := []) rfl rfl rfl (zrcv_Q e43 c44) rfl (zmE137 _) rfl (zmS137 C) ?_
      refine zA_ld rfl rfl rfl ?_
      rcases zite_e H with ⟨c49, H⟩ | ⟨c49, H⟩
      · refine zA_brT (c := x48 = x31) rfl rfl rfl c49 ?_
        refine zA_ld rfl rfl rfl ?_
        rcases zite_e H with ⟨c50, H⟩ | ⟨c50, H⟩
        · refine zA_brF' (c := x31 = 0) rfl rfl rfl c50 ?_
          refine zA_aldn rfl rfl rfl ?_
          refine zA_push rfl rfl zkk7 ?_
          obtain ⟨p51, i52, j53, v58, e54, c55, c56, e57, e59, H⟩ := zrj_e H
          refine zA_lal rfl rfl e54 c55 c56 e57 e59 ?_
          refine zA_ld rfl rfl rfl ?_
          refine zA_st (st' := [zJ (x46.toInt64), zJ v58]) rfl rfl rfl rfl ?_
          refine zA_st (st' := [zI (lg_cmp v58 (x46.toInt64))]) rfl rfl rfl rfl ?_
          rcases zite_e H with ⟨c60, H⟩ | ⟨c60, H⟩
          · refine zA_brT (c := (lg_cmp v58 (x46.toInt64)) = 0) rfl rfl rfl c60 ?_
            refine zA_tr (L := [some (zrv x0), some (zrv x1), some (zrv x2), some (zrv x3), some (zrv x4), some (zI x5), none, none, none]) rfl rfl ?_
            refine zA_go rfl rfl ?_
            exact zA_tr (L := [some (zrv x0), some (zrv x1), some (zrv x2), some (zrv x3), some (zrv x4), some (zI x5), none, none, none]) rfl rfl (zmS291_2349 hk16 _ _ _ _ _ _ _ _ _ H)
          · refine zA_brF (c := (lg_cmp v58 (x46.toInt64)) = 0) rfl rfl rfl c60 ?_
            refine zA_push rfl rfl zkk7 ?_
            cases H
            exact zA_ret rfl (zret_Z (by decide))
        · refine zA_brT' (c := x31 = 0) rfl rfl rfl c50 ?_
          refine zA_tr (L := [some (zrv x0), some (zrv x1), some (zrv x2), some (zrv x3), some (zrv x4), some (zI x5), none, none, none]) rfl rfl ?_
          refine zA_go rfl rfl ?_
          exact zA_tr (L := [some (zrv x0), some (zrv x1), some (zrv x2), some (zrv x3), some (zrv x4), some (zI x5), none, none, none]) rfl rfl (zmS291_2349 hk16 _ _ _ _ _ _ _ _ _ H)
      · refine zA_brF (c := x48 = x31) rfl rfl rfl c49 ?_
        refine zA_push rfl rfl zkk7 ?_
        cases H
        exact zA_ret rfl (zret_Z (by decide))
    · cases H
      exact zA_callX (as := [zrv x2]) (st' := []) rfl rfl (zrcv_Q e43 c44) rfl (zmE137 _) rfl rfl rfl (zmS137 C)
  · cases H
    exact zA_callX (as := [zrv x2, zI v39]) (st' := []) rfl rfl (zrcv_Q e43 c44) rfl (zmE225 _ _) rfl rfl rfl (zmS225 C)
def zm291_1807 (k16 : zq → zq → zq → zq → zq → Int32 → zH → zRs Int32) (x0 : zq) (x1 : zq) (x2 : zq) (x3 : zq) (x4 : zq) (x5 : Int32) (h : zH) : zRs Int32 :=
  zri x0 (x5 + (1 : Int32)) h fun v28 =>
  zb2 (zm279 x1 v28 x3 h) fun x31 h30 =>
  zri x0 (x5 + (1 : Int32)) h30 fun v39 =>
  zob 12 x2 fun p41 i42 =>
  zb (zm224 x2 v39 h30) fun x46 h45 =>
  zb (zm137 x2 h45) fun x48 h47 =>
  if x48 = x31 then
    if x31 = 0 then
      zrj x3 (0 : Int32) h47 fun v58 =>
      if (lg_cmp v58 (x46.toInt64)) = 0 then
        zm291_2349 k16 x0 x1 x2 x3 x4 x5 h47
      else
        some (.inl (0 : Int32), h47)
    else
      zm291_2349 k16 x0 x1 x2 x3 x4 x5 h47
  else
    some (.inl (0 : Int32), h47)
theorem zmS291_1807 {k16 : zq → zq → zq → zq → zq → Int32 → zH → zRs Int32} (hk16 : ∀ (x0 : zq) (x1 : zq) (x2 : zq) (x3 : zq) (x4 : zq) (x5 : Int32) (h : zH) (r : Int32 ⊕ Nat) (h' : zH), k16 x0 x1 x2 x3 x4 x5 h = some (r, h') → zAt 291 16 [some (zrv x0), some (zrv x1), some (zrv x2), some (zrv x3), some (zrv x4), some (zI x5), none, none, none] [] h (zoI r) h') : ∀ (x0 : zq) (x1 : zq) (x2 : zq) (x3 : zq) (x4 : zq) (x5 : Int32) (h : zH) (r : Int32 ⊕ Nat) (h' : zH), zm291_1807 k16 x0 x1 x2 x3 x4 x5 h = some (r, h') → zAt 291 1807 [some (zrv x0), some (zrv x1), some (zrv x2), some (zrv x3), some (zrv x4), some (zI x5), none, none, none] [] h (zoI r) h' := by
  intro x0 x1 x2 x3 x4 x5 h r h' H
  unfold zm291_1807 at H
  refine zA_aldn rfl rfl rfl ?_
  refine zA_aldn rfl rfl rfl ?_
  refine zA_ld rfl rfl rfl ?_
  refine zA_push rfl rfl zkk5 ?_
  refine zA_st (st' := [zI (x5 + (1 : Int32)), zrv x0, zrv x1]) rfl rfl rfl rfl ?_
  obtain ⟨p21, i22, j23, v28, e24, c25, c26, e27, e29, H⟩ := zri_e H
  refine zA_ial rfl rfl e24 c25 c26 e27 e29 ?_
  refine zA_aldn rfl rfl rfl ?_
  obtain ⟨x31, h30, C, H⟩ := zb2_e H
  refine zA_callV (as := [zrv x1, zI v28, zrv x3]) (st' := []) rfl rfl rfl rfl rfl (zmE279 _ _ _) rfl (zmS279 C) ?_
  refine zA_ist2 rfl rfl rfl (zset1 (L' := [some (zrv x0), some (zrv x1), some (zrv x2), some (zrv x3), some (zrv x4), some (zI x5), some (zI x31), none, none]) rfl rfl (zpcV rfl rfl)) ?_
  refine zA_aldn rfl rfl rfl ?_
  refine zA_aldn rfl rfl rfl ?_
  refine zA_ld rfl rfl rfl ?_
  refine zA_push rfl rfl zkk5 ?_
  refine zA_st (st' := [zI (x5 + (1 : Int32)), zrv x0, zrv x2]) rfl rfl rfl rfl ?_
  obtain ⟨p32, i33, j34, v39, e35, c36, c37, e38, e40, H⟩ := zri_e H
  refine zA_ial rfl rfl e35 c36 c37 e38 e40 ?_
  obtain ⟨p41, i42, e43, c44, H⟩ := zob_e H
  rcases zb_e H with ⟨x46, h45, C, H⟩ | ⟨E, h45, C, H⟩
  · refine zA_callV (as := [zrv x2, zI v39]) (st' := []) rfl rfl rfl (zrcv_Q e43 c44) rfl (zmE224 _ _) rfl (zmS224 C) ?_
    refine zA_ist2 rfl rfl rfl (zset1 (L' := [some (zrv x0), some (zrv x1), some (zrv x2), some (zrv x3), some (zrv x4), some (zI x5), some (zI x31), some (zI x46), none]) rfl rfl (zpcV rfl rfl)) ?_
    refine zA_aldn rfl rfl rfl ?_
    rcases zb_e H with ⟨x48, h47, C, H⟩ | ⟨E, h47, C, H⟩
    · refine zA_callV (as := [zrv x2]) (st' := []) rfl rfl rfl (zrcv_Q e43 c44) rfl (zmE137 _) rfl (zmS137 C) ?_
      refine zA_ld rfl rfl rfl ?_
      rcases zite_e H with ⟨c49, H⟩ | ⟨c49, H⟩
      · refine zA_brT (c := x48 = x31) rfl rfl rfl c49 ?_
        refine zA_ld rfl rfl rfl ?_
        rcases zite_e H with ⟨c50, H⟩ | ⟨c50, H⟩
        · refine zA_brF' (c := x31 = 0) rfl rfl rfl c50 ?_
          refine zA_aldn rfl rfl rfl ?_
          refine zA_push rfl rfl zkk7 ?_
          obtain ⟨p51, i52, j53, v58, e54, c55, c56, e57, e59, H⟩ := zrj_e H
          refine zA_lal rfl rfl e54 c55 c56 e57 e59 ?_
          refine zA_ld rfl rfl rfl ?_
          refine zA_st (st' := [zJ (x46.toInt64), zJ v58]) rfl rfl rfl rfl ?_
          refine zA_st (st' := [zI (lg_cmp v58 (x46.toInt64))]) rfl rfl rfl rfl ?_
          rcases zite_e H with ⟨c60, H⟩ | ⟨c60, H⟩
          · refine zA_brT (c := (lg_cmp v58 (x46.toInt64)) = 0) rfl rfl rfl c60 ?_
            refine zA_tr (L := [some (zrv x0), some (zrv x1), some (zrv x2), some (zrv x3), some (zrv x4), some (zI x5), none, none, none]) rfl rfl ?_
            refine zA_go rfl rfl ?_
            exact zA_tr (L := [some (zrv x0), some (zrv x1), some (zrv x2), some (zrv x3), some (zrv x4), some (zI x5), none, none, none]) rfl rfl (zmS291_2349 hk16 _ _ _ _ _ _ _ _ _ H)
          · refine zA_brF (c := (lg_cmp v58 (x46.toInt64)) = 0) rfl rfl rfl c60 ?_
            refine zA_push rfl rfl zkk7 ?_
            cases H
            exact zA_ret rfl (zret_Z (by decide))
        · refine zA_brT' (c := x31 = 0) rfl rfl rfl c50 ?_
          refine zA_tr (L := [some (zrv x0), some (zrv x1), some (zrv x2), some (zrv x3), some (zrv x4), some (zI x5), none, none, none]) rfl rfl ?_
          refine zA_go rfl rfl ?_
          exact zA_tr (L := [some (zrv x0), some (zrv x1), some (zrv x2), some (zrv x3), some (zrv x4), some (zI x5), none, none, none]) rfl rfl (zmS291_2349 hk16 _ _ _ _ _ _ _ _ _ H)
      · refine zA_brF (c := x48 = x31) rfl rfl rfl c49 ?_
        refine zA_push rfl rfl zkk7 ?_
        cases H
        exact zA_ret rfl (zret_Z (by decide))
    · cases H
      exact zA_callX (as := [zrv x2]) (st' := []) rfl rfl (zrcv_Q e43 c44) rfl (zmE137 _) rfl rfl rfl (zmS137 C)
  · cases H
    exact zA_callX (as := [zrv x2, zI v39]) (st' := []) rfl rfl (zrcv_Q e43 c44) rfl (zmE224 _ _) rfl rfl rfl (zmS224 C)
def zm291_1762 (k16 : zq → zq → zq → zq → zq → Int32 → zH → zRs Int32) (x0 : zq) (x1 : zq) (x2 : zq) (x3 : zq) (x4 : zq) (x5 : Int32) (h : zH) : zRs Int32 :=
  zri x0 (x5 + (1 : Int32)) h fun v28 =>
  zri x0 (x5 + (2 : Int32)) h fun v37 =>
  zb2 (zm278 x1 v28 v37 x3 h) fun x40 h39 =>
  zri x0 (x5 + (1 : Int32)) h39 fun v48 =>
  zri x0 (x5 + (2 : Int32)) h39 fun v57 =>
  zob 12 x2 fun p59 i60 =>
  zb (zm223 x2 v48 v57 h39) fun x64 h63 =>
  zb (zm137 x2 h63) fun x66 h65 =>
  if x66 = x40 then
    if x40 = 0 then
      zrj x3 (0 : Int32) h65 fun v76 =>
      if (lg_cmp v76 (x64.toInt64)) = 0 then
        zm291_2349 k16 x0 x1 x2 x3 x4 x5 h65
      else
        some (.inl (0 : Int32), h65)
    else
      zm291_2349 k16 x0 x1 x2 x3 x4 x5 h65
  else
    some (.inl (0 : Int32), h65)
theorem zmS291_1762 {k16 : zq → zq → zq → zq → zq → Int32 → zH → zRs Int32} (hk16 : ∀ (x0 : zq) (x1 : zq) (x2 : zq) (x3 : zq) (x4 : zq) (x5 : Int32) (h : zH) (r : Int32 ⊕ Nat) (h' : zH), k16 x0 x1 x2 x3 x4 x5 h = some (r, h') → zAt 291 16 [some (zrv x0), some (zrv x1), some (zrv x2), some (zrv x3), some (zrv x4), some (zI x5), none, none, none] [] h (zoI r) h') : ∀ (x0 : zq) (x1 : zq) (x2 : zq) (x3 : zq) (x4 : zq) (x5 : Int32) (h : zH) (r : Int32 ⊕ Nat) (h' : zH), zm291_1762 k16 x0 x1 x2 x3 x4 x5 h = some (r, h') → zAt 291 1762 [some (zrv x0), some (zrv x1), some (zrv x2), some (zrv x3), some (zrv x4), some (zI x5), none, none, none] [] h (zoI r) h' := by
  intro x0 x1 x2 x3 x4 x5 h r h' H
  unfold zm291_1762 at H
  refine zA_aldn rfl rfl rfl ?_
  refine zA_aldn rfl rfl rfl ?_
  refine zA_ld rfl rfl rfl ?_
  refine zA_push rfl rfl zkk5 ?_
  refine zA_st (st' := [zI (x5 + (1 : Int32)), zrv x0, zrv x1]) rfl rfl rfl rfl ?_
  obtain ⟨p21, i22, j23, v28, e24, c25, c26, e27, e29, H⟩ := zri_e H
  refine zA_ial rfl rfl e24 c25 c26 e27 e29 ?_
  refine zA_aldn rfl rfl rfl ?_
  refine zA_ld rfl rfl rfl ?_
  refine zA_push rfl rfl zkk23 ?_
  refine zA_st (st' := [zI (x5 + (2 : Int32)), zrv x0, zI v28, zrv x1]) rfl rfl rfl rfl ?_
  obtain ⟨p30, i31, j32, v37, e33, c34, c35, e36, e38, H⟩ := zri_e H
  refine zA_ial rfl rfl e33 c34 c35 e36 e38 ?_
  refine zA_aldn rfl rfl rfl ?_
  obtain ⟨x40, h39, C, H⟩ := zb2_e H
  refine zA_callV (as := [zrv x1, zI v28, zI v37, zrv x3]) (st' := []) rfl rfl rfl rfl rfl (zmE278 _ _ _ _) rfl (zmS278 C) ?_
  refine zA_ist2 rfl rfl rfl (zset1 (L' := [some (zrv x0), some (zrv x1), some (zrv x2), some (zrv x3), some (zrv x4), some (zI x5), some (zI x40), none, none]) rfl rfl (zpcV rfl rfl)) ?_
  refine zA_aldn rfl rfl rfl ?_
  refine zA_aldn rfl rfl rfl ?_
  refine zA_ld rfl rfl rfl ?_
  refine zA_push rfl rfl zkk5 ?_
  refine zA_st (st' := [zI (x5 + (1 : Int32)), zrv x0, zrv x2]) rfl rfl rfl rfl ?_
  obtain ⟨p41, i42, j43, v48, e44, c45, c46, e47, e49, H⟩ := zri_e H
  refine zA_ial rfl rfl e44 c45 c46 e47 e49 ?_
  refine zA_aldn rfl rfl rfl ?_
  refine zA_ld rfl rfl rfl ?_
  refine zA_push rfl rfl zkk23 ?_
  refine zA_st (st' := [zI (x5 + (2 : Int32)), zrv x0, zI v48, zrv x2]) rfl rfl rfl rfl ?_
  obtain ⟨p50, i51, j52, v57, e53, c54, c55, e56, e58, H⟩ := zri_e H
  refine zA_ial rfl rfl e53 c54 c55 e56 e58 ?_
  obtain ⟨p59, i60, e61, c62, H⟩ := zob_e H
  rcases zb_e H with ⟨x64, h63, C, H⟩ | ⟨E, h63, C, H⟩
  · refine zA_callV (as := [zrv x2, zI v48, zI v57]) (st' := []) rfl rfl rfl (zrcv_Q e61 c62) rfl (zmE223 _ _ _) rfl (zmS223 C) ?_
    refine zA_ist2 rfl rfl rfl (zset1 (L' := [some (zrv x0), some (zrv x1), some (zrv x2), some (zrv x3), some (zrv x4), some (zI x5), some (zI x40), some (zI x64), none]) rfl rfl (zpcV rfl rfl)) ?_
    refine zA_aldn rfl rfl rfl ?_
    rcases zb_e H with ⟨x66, h65, C, H⟩ | ⟨E, h65, C, H⟩
    · refine zA_callV (as := [zrv x2]) (st' := []) rfl rfl rfl (zrcv_Q e61 c62) rfl (zmE137 _) rfl (zmS137 C) ?_
      refine zA_ld rfl rfl rfl ?_
      rcases zite_e H with ⟨c67, H⟩ | ⟨c67, H⟩
      · refine zA_brT (c := x66 = x40) rfl rfl rfl c67 ?_
        refine zA_ld rfl rfl rfl ?_
        rcases zite_e H with ⟨c68, H⟩ | ⟨c68, H⟩
        · refine zA_brF' (c := x40 = 0) rfl rfl rfl c68 ?_
          refine zA_aldn rfl rfl rfl ?_
          refine zA_push rfl rfl zkk7 ?_
          obtain ⟨p69, i70, j71, v76, e72, c73, c74, e75, e77, H⟩ := zrj_e H
          refine zA_lal rfl rfl e72 c73 c74 e75 e77 ?_
          refine zA_ld rfl rfl rfl ?_
          refine zA_st (st' := [zJ (x64.toInt64), zJ v76]) rfl rfl rfl rfl ?_
          refine zA_st (st' := [zI (lg_cmp v76 (x64.toInt64))]) rfl rfl rfl rfl ?_
          rcases zite_e H with ⟨c78, H⟩ | ⟨c78, H⟩
          · refine zA_brT (c := (lg_cmp v76 (x64.toInt64)) = 0) rfl rfl rfl c78 ?_
            refine zA_tr (L := [some (zrv x0), some (zrv x1), some (zrv x2), some (zrv x3), some (zrv x4), some (zI x5), none, none, none]) rfl rfl ?_
            refine zA_go rfl rfl ?_
            exact zA_tr (L := [some (zrv x0), some (zrv x1), some (zrv x2), some (zrv x3), some (zrv x4), some (zI x5), none, none, none]) rfl rfl (zmS291_2349 hk16 _ _ _ _ _ _ _ _ _ H)
          · refine zA_brF (c := (lg_cmp v76 (x64.toInt64)) = 0) rfl rfl rfl c78 ?_
            refine zA_push rfl rfl zkk7 ?_
            cases H
            exact zA_ret rfl (zret_Z (by decide))
        · refine zA_brT' (c := x40 = 0) rfl rfl rfl c68 ?_
          refine zA_tr (L := [some (zrv x0), some (zrv x1), some (zrv x2), some (zrv x3), some (zrv x4), some (zI x5), none, none, none]) rfl rfl ?_
          refine zA_go rfl rfl ?_
          exact zA_tr (L := [some (zrv x0), some (zrv x1), some (zrv x2), some (zrv x3), some (zrv x4), some (zI x5), none, none, none]) rfl rfl (zmS291_2349 hk16 _ _ _ _ _ _ _ _ _ H)
      · refine zA_brF (c := x66 = x40) rfl rfl rfl c67 ?_
        refine zA_push rfl rfl zkk7 ?_
        cases H
        exact zA_ret rfl (zret_Z (by decide))
    · cases H
      exact zA_callX (as := [zrv x2]) (st' := []) rfl rfl (zrcv_Q e61 c62) rfl (zmE137 _) rfl rfl rfl (zmS137 C)
  · cases H
    exact zA_callX (as := [zrv x2, zI v48, zI v57]) (st' := []) rfl rfl (zrcv_Q e61 c62) rfl (zmE223 _ _ _) rfl rfl rfl (zmS223 C)
def zm291_1757 (k16 : zq → zq → zq → zq → zq → Int32 → zH → zRs Int32) (x0 : zq) (x1 : zq) (x2 : zq) (x3 : zq) (x4 : zq) (x5 : Int32) (s0 : Int64) (s1 : Int64) (h : zH) : zRs Int32 :=
  if (lg_cmp s0 s1) = 0 then
    zm291_2349 k16 x0 x1 x2 x3 x4 x5 h
  else
    some (.inl (0 : Int32), h)
theorem zmS291_1757 {k16 : zq → zq → zq → zq → zq → Int32 → zH → zRs Int32} (hk16 : ∀ (x0 : zq) (x1 : zq) (x2 : zq) (x3 : zq) (x4 : zq) (x5 : Int32) (h : zH) (r : Int32 ⊕ Nat) (h' : zH), k16 x0 x1 x2 x3 x4 x5 h = some (r, h') → zAt 291 16 [some (zrv x0), some (zrv x1), some (zrv x2), some (zrv x3), some (zrv x4), some (zI x5), none, none, none] [] h (zoI r) h') : ∀ (x0 : zq) (x1 : zq) (x2 : zq) (x3 : zq) (x4 : zq) (x5 : Int32) (s0 : Int64) (s1 : Int64) (h : zH) (r : Int32 ⊕ Nat) (h' : zH), zm291_1757 k16 x0 x1 x2 x3 x4 x5 s0 s1 h = some (r, h') → zAt 291 1757 [some (zrv x0), some (zrv x1), some (zrv x2), some (zrv x3), some (zrv x4), some (zI x5), none, none, none] [zJ s1, zJ s0] h (zoI r) h' := by
  intro x0 x1 x2 x3 x4 x5 s0 s1 h r h' H
  unfold zm291_1757 at H
  refine zA_st (st' := [zI (lg_cmp s0 s1)]) rfl rfl rfl rfl ?_
  rcases zite_e H with ⟨c21, H⟩ | ⟨c21, H⟩
  · refine zA_brT (c := (lg_cmp s0 s1) = 0) rfl rfl rfl c21 ?_
    refine zA_go rfl rfl ?_
    exact zA_tr (L := [some (zrv x0), some (zrv x1), some (zrv x2), some (zrv x3), some (zrv x4), some (zI x5), none, none, none]) rfl rfl (zmS291_2349 hk16 _ _ _ _ _ _ _ _ _ H)
  · refine zA_brF (c := (lg_cmp s0 s1) = 0) rfl rfl rfl c21 ?_
    refine zA_push rfl rfl zkk7 ?_
    cases H
    exact zA_ret rfl (zret_Z (by decide))
def zm291_1714 (k16 : zq → zq → zq → zq → zq → Int32 → zH → zRs Int32) (x0 : zq) (x1 : zq) (x2 : zq) (x3 : zq) (x4 : zq) (x5 : Int32) (h : zH) : zRs Int32 :=
  zri x0 (x5 + (1 : Int32)) h fun v28 =>
  zri x0 (x5 + (2 : Int32)) h fun v37 =>
  zb2 (zm277 x1 v28 v37 x3 h) fun x40 h39 =>
  zri x0 (x5 + (1 : Int32)) h39 fun v48 =>
  zri x0 (x5 + (2 : Int32)) h39 fun v57 =>
  zob 12 x2 fun p59 i60 =>
  zb (zm222 x2 v48 v57 h39) fun x64 h63 =>
  zb (zm137 x2 h63) fun x66 h65 =>
  if x66 = x40 then
    if x40 = 0 then
      zrj x3 (0 : Int32) h65 fun v76 =>
      if x64 = 0 then
        zm291_1757 k16 x0 x1 x2 x3 x4 x5 v76 (0 : Int64) h65
      else
        zm291_1757 k16 x0 x1 x2 x3 x4 x5 v76 (1 : Int64) h65
    else
      zm291_2349 k16 x0 x1 x2 x3 x4 x5 h65
  else
    some (.inl (0 : Int32), h65)
theorem zmS291_1714 {k16 : zq → zq → zq → zq → zq → Int32 → zH → zRs Int32} (hk16 : ∀ (x0 : zq) (x1 : zq) (x2 : zq) (x3 : zq) (x4 : zq) (x5 : Int32) (h : zH) (r : Int32 ⊕ Nat) (h' : zH), k16 x0 x1 x2 x3 x4 x5 h = some (r, h') → zAt 291 16 [some (zrv x0), some (zrv x1), some (zrv x2), some (zrv x3), some (zrv x4), some (zI x5), none, none, none] [] h (zoI r) h') : ∀ (x0 : zq) (x1 : zq) (x2 : zq) (x3 : zq) (x4 : zq) (x5 : Int32) (h : zH) (r : Int32 ⊕ Nat) (h' : zH), zm291_1714 k16 x0 x1 x2 x3 x4 x5 h = some (r, h') → zAt 291 1714 [some (zrv x0), some (zrv x1), some (zrv x2), some (zrv x3), some (zrv x4), some (zI x5), none, none, none] [] h (zoI r) h' := by
  intro x0 x1 x2 x3 x4 x5 h r h' H
  unfold zm291_1714 at H
  refine zA_aldn rfl rfl rfl ?_
  refine zA_aldn rfl rfl rfl ?_
  refine zA_ld rfl rfl rfl ?_
  refine zA_push rfl rfl zkk5 ?_
  refine zA_st (st' := [zI (x5 + (1 : Int32)), zrv x0, zrv x1]) rfl rfl rfl rfl ?_
  obtain ⟨p21, i22, j23, v28, e24, c25, c26, e27, e29, H⟩ := zri_e H
  refine zA_ial rfl rfl e24 c25 c26 e27 e29 ?_
  refine zA_aldn rfl rfl rfl ?_
  refine zA_ld rfl rfl rfl ?_
  refine zA_push rfl rfl zkk23 ?_
  refine zA_st (st' := [zI (x5 + (2 : Int32)), zrv x0, zI v28, zrv x1]) rfl rfl rfl rfl ?_
  obtain ⟨p30, i31, j32, v37, e33, c34, c35, e36, e38, H⟩ := zri_e H
  refine zA_ial rfl rfl e33 c34 c35 e36 e38 ?_
  refine zA_aldn rfl rfl rfl ?_
  obtain ⟨x40, h39, C, H⟩ := zb2_e H
  refine zA_callV (as := [zrv x1, zI v28, zI v37, zrv x3]) (st' := []) rfl rfl rfl rfl rfl (zmE277 _ _ _ _) rfl (zmS277 C) ?_
  refine zA_ist2 rfl rfl rfl (zset1 (L' := [some (zrv x0), some (zrv x1), some (zrv x2), some (zrv x3), some (zrv x4), some (zI x5), some (zI x40), none, none]) rfl rfl (zpcV rfl rfl)) ?_
  refine zA_aldn rfl rfl rfl ?_
  refine zA_aldn rfl rfl rfl ?_
  refine zA_ld rfl rfl rfl ?_
  refine zA_push rfl rfl zkk5 ?_
  refine zA_st (st' := [zI (x5 + (1 : Int32)), zrv x0, zrv x2]) rfl rfl rfl rfl ?_
  obtain ⟨p41, i42, j43, v48, e44, c45, c46, e47, e49, H⟩ := zri_e H
  refine zA_ial rfl rfl e44 c45 c46 e47 e49 ?_
  refine zA_aldn rfl rfl rfl ?_
  refine zA_ld rfl rfl rfl ?_
  refine zA_push rfl rfl zkk23 ?_
  refine zA_st (st' := [zI (x5 + (2 : Int32)), zrv x0, zI v48, zrv x2]) rfl rfl rfl rfl ?_
  obtain ⟨p50, i51, j52, v57, e53, c54, c55, e56, e58, H⟩ := zri_e H
  refine zA_ial rfl rfl e53 c54 c55 e56 e58 ?_
  obtain ⟨p59, i60, e61, c62, H⟩ := zob_e H
  rcases zb_e H with ⟨x64, h63, C, H⟩ | ⟨E, h63, C, H⟩
  · refine zA_callV (as := [zrv x2, zI v48, zI v57]) (st' := []) rfl rfl rfl (zrcv_Q e61 c62) rfl (zmE222 _ _ _) rfl (zmS222 C) ?_
    refine zA_ist2 rfl rfl rfl (zset1 (L' := [some (zrv x0), some (zrv x1), some (zrv x2), some (zrv x3), some (zrv x4), some (zI x5), some (zI x40), some (zI x64), none]) rfl rfl (zpcV rfl rfl)) ?_
    refine zA_aldn rfl rfl rfl ?_
    rcases zb_e H with ⟨x66, h65, C, H⟩ | ⟨E, h65, C, H⟩
    · refine zA_callV (as := [zrv x2]) (st' := []) rfl rfl rfl (zrcv_Q e61 c62) rfl (zmE137 _) rfl (zmS137 C) ?_
      refine zA_ld rfl rfl rfl ?_
      rcases zite_e H with ⟨c67, H⟩ | ⟨c67, H⟩
      · refine zA_brT (c := x66 = x40) rfl rfl rfl c67 ?_
        refine zA_ld rfl rfl rfl ?_
        rcases zite_e H with ⟨c68, H⟩ | ⟨c68, H⟩
        · refine zA_brF' (c := x40 = 0) rfl rfl rfl c68 ?_
          refine zA_aldn rfl rfl rfl ?_
          refine zA_push rfl rfl zkk7 ?_
          obtain ⟨p69, i70, j71, v76, e72, c73, c74, e75, e77, H⟩ := zrj_e H
          refine zA_lal rfl rfl e72 c73 c74 e75 e77 ?_
          refine zA_ld rfl rfl rfl ?_
          rcases zite_e H with ⟨c78, H⟩ | ⟨c78, H⟩
          · refine zA_brT (c := x64 = 0) rfl rfl rfl c78 ?_
            refine zA_tr (L := [some (zrv x0), some (zrv x1), some (zrv x2), some (zrv x3), some (zrv x4), some (zI x5), none, none, none]) rfl rfl ?_
            refine zA_push rfl rfl zkk24 ?_
            exact zA_tr (L := [some (zrv x0), some (zrv x1), some (zrv x2), some (zrv x3), some (zrv x4), some (zI x5), none, none, none]) rfl rfl (zmS291_1757 hk16 _ _ _ _ _ _ _ _ _ _ _ H)
          · refine zA_brF (c := x64 = 0) rfl rfl rfl c78 ?_
            refine zA_push rfl rfl zkk25 ?_
            refine zA_go rfl rfl ?_
            exact zA_tr (L := [some (zrv x0), some (zrv x1), some (zrv x2), some (zrv x3), some (zrv x4), some (zI x5), none, none, none]) rfl rfl (zmS291_1757 hk16 _ _ _ _ _ _ _ _ _ _ _ H)
        · refine zA_brT' (c := x40 = 0) rfl rfl rfl c68 ?_
          refine zA_tr (L := [some (zrv x0), some (zrv x1), some (zrv x2), some (zrv x3), some (zrv x4), some (zI x5), none, none, none]) rfl rfl ?_
          refine zA_go rfl rfl ?_
          exact zA_tr (L := [some (zrv x0), some (zrv x1), some (zrv x2), some (zrv x3), some (zrv x4), some (zI x5), none, none, none]) rfl rfl (zmS291_2349 hk16 _ _ _ _ _ _ _ _ _ H)
      · refine zA_brF (c := x66 = x40) rfl rfl rfl c67 ?_
        refine zA_push rfl rfl zkk7 ?_
        cases H
        exact zA_ret rfl (zret_Z (by decide))
    · cases H
      exact zA_callX (as := [zrv x2]) (st' := []) rfl rfl (zrcv_Q e61 c62) rfl (zmE137 _) rfl rfl rfl (zmS137 C)
  · cases H
    exact zA_callX (as := [zrv x2, zI v48, zI v57]) (st' := []) rfl rfl (zrcv_Q e61 c62) rfl (zmE222 _ _ _) rfl rfl rfl (zmS222 C)
def zm291_1669 (k16 : zq → zq → zq → zq → zq → Int32 → zH → zRs Int32) (x0 : zq) (x1 : zq) (x2 : zq) (x3 : zq) (x4 : zq) (x5 : Int32) (h : zH) : zRs Int32 :=
  zri x0 (x5 + (1 : Int32)) h fun v28 =>
  zri x0 (x5 + (2 : Int32)) h fun v37 =>
  zb2 (zm276 x1 v28 v37 x3 h) fun x40 h39 =>
  zri x0 (x5 + (1 : Int32)) h39 fun v48 =>
  zri x0 (x5 + (2 : Int32)) h39 fun v57 =>
  zob 12 x2 fun p59 i60 =>
  zb (zm221 x2 v48 v57 h39) fun x64 h63 =>
  zb (zm137 x2 h63) fun x66 h65 =>
  if x66 = x40 then
    if x40 = 0 then
      zrj x3 (0 : Int32) h65 fun v76 =>
      if (lg_cmp v76 (x64.toInt64)) = 0 then
        zm291_2349 k16 x0 x1 x2 x3 x4 x5 h65
      else
        some (.inl (0 : Int32), h65)
    else
      zm291_2349 k16 x0 x1 x2 x3 x4 x5 h65
  else
    some (.inl (0 : Int32), h65)
theorem zmS291_1669 {k16 : zq → zq → zq → zq → zq → Int32 → zH → zRs Int32} (hk16 : ∀ (x0 : zq) (x1 : zq) (x2 : zq) (x3 : zq) (x4 : zq) (x5 : Int32) (h : zH) (r : Int32 ⊕ Nat) (h' : zH), k16 x0 x1 x2 x3 x4 x5 h = some (r, h') → zAt 291 16 [some (zrv x0), some (zrv x1), some (zrv x2), some (zrv x3), some (zrv x4), some (zI x5), none, none, none] [] h (zoI r) h') : ∀ (x0 : zq) (x1 : zq) (x2 : zq) (x3 : zq) (x4 : zq) (x5 : Int32) (h : zH) (r : Int32 ⊕ Nat) (h' : zH), zm291_1669 k16 x0 x1 x2 x3 x4 x5 h = some (r, h') → zAt 291 1669 [some (zrv x0), some (zrv x1), some (zrv x2), some (zrv x3), some (zrv x4), some (zI x5), none, none, none] [] h (zoI r) h' := by
  intro x0 x1 x2 x3 x4 x5 h r h' H
  unfold zm291_1669 at H
  refine zA_aldn rfl rfl rfl ?_
  refine zA_aldn rfl rfl rfl ?_
  refine zA_ld rfl rfl rfl ?_
  refine zA_push rfl rfl zkk5 ?_
  refine zA_st (st' := [zI (x5 + (1 : Int32)), zrv x0, zrv x1]) rfl rfl rfl rfl ?_
  obtain ⟨p21, i22, j23, v28, e24, c25, c26, e27, e29, H⟩ := zri_e H
  refine zA_ial rfl rfl e24 c25 c26 e27 e29 ?_
  refine zA_aldn rfl rfl rfl ?_
  refine zA_ld rfl rfl rfl ?_
  refine zA_push rfl rfl zkk23 ?_
  refine zA_st (st' := [zI (x5 + (2 : Int32)), zrv x0, zI v28, zrv x1]) rfl rfl rfl rfl ?_
  obtain ⟨p30, i31, j32, v37, e33, c34, c35, e36, e38, H⟩ := zri_e H
  refine zA_ial rfl rfl e33 c34 c35 e36 e38 ?_
  refine zA_aldn rfl rfl rfl ?_
  obtain ⟨x40, h39, C, H⟩ := zb2_e H
  refine zA_callV (as := [zrv x1, zI v28, zI v37, zrv x3]) (st' := []) rfl rfl rfl rfl rfl (zmE276 _ _ _ _) rfl (zmS276 C) ?_
  refine zA_ist2 rfl rfl rfl (zset1 (L' := [some (zrv x0), some (zrv x1), some (zrv x2), some (zrv x3), some (zrv x4), some (zI x5), some (zI x40), none, none]) rfl rfl (zpcV rfl rfl)) ?_
  refine zA_aldn rfl rfl rfl ?_
  refine zA_aldn rfl rfl rfl ?_
  refine zA_ld rfl rfl rfl ?_
  refine zA_push rfl rfl zkk5 ?_
  refine zA_st (st' := [zI (x5 + (1 : Int32)), zrv x0, zrv x2]) rfl rfl rfl rfl ?_
  obtain ⟨p41, i42, j43, v48, e44, c45, c46, e47, e49, H⟩ := zri_e H
  refine zA_ial rfl rfl e44 c45 c46 e47 e49 ?_
  refine zA_aldn rfl rfl rfl ?_
  refine zA_ld rfl rfl rfl ?_
  refine zA_push rfl rfl zkk23 ?_
  refine zA_st (st' := [zI (x5 + (2 : Int32)), zrv x0, zI v48, zrv x2]) rfl rfl rfl rfl ?_
  obtain ⟨p50, i51, j52, v57, e53, c54, c55, e56, e58, H⟩ := zri_e H
  refine zA_ial rfl rfl e53 c54 c55 e56 e58 ?_
  obtain ⟨p59, i60, e61, c62, H⟩ := zob_e H
  rcases zb_e H with ⟨x64, h63, C, H⟩ | ⟨E, h63, C, H⟩
  · refine zA_callV (as := [zrv x2, zI v48, zI v57]) (st' := []) rfl rfl rfl (zrcv_Q e61 c62) rfl (zmE221 _ _ _) rfl (zmS221 C) ?_
    refine zA_ist2 rfl rfl rfl (zset1 (L' := [some (zrv x0), some (zrv x1), some (zrv x2), some (zrv x3), some (zrv x4), some (zI x5), some (zI x40), some (zI x64), none]) rfl rfl (zpcV rfl rfl)) ?_
    refine zA_aldn rfl rfl rfl ?_
    rcases zb_e H with ⟨x66, h65, C, H⟩ | ⟨E, h65, C, H⟩
    · refine zA_callV (as := [zrv x2]) (st' := []) rfl rfl rfl (zrcv_Q e61 c62) rfl (zmE137 _) rfl (zmS137 C) ?_
      refine zA_ld rfl rfl rfl ?_
      rcases zite_e H with ⟨c67, H⟩ | ⟨c67, H⟩
      · refine zA_brT (c := x66 = x40) rfl rfl rfl c67 ?_
        refine zA_ld rfl rfl rfl ?_
        rcases zite_e H with ⟨c68, H⟩ | ⟨c68, H⟩
        · refine zA_brF' (c := x40 = 0) rfl rfl rfl c68 ?_
          refine zA_aldn rfl rfl rfl ?_
          refine zA_push rfl rfl zkk7 ?_
          obtain ⟨p69, i70, j71, v76, e72, c73, c74, e75, e77, H⟩ := zrj_e H
          refine zA_lal rfl rfl e72 c73 c74 e75 e77 ?_
          refine zA_ld rfl rfl rfl ?_
          refine zA_st (st' := [zJ (x64.toInt64), zJ v76]) rfl rfl rfl rfl ?_
          refine zA_st (st' := [zI (lg_cmp v76 (x64.toInt64))]) rfl rfl rfl rfl ?_
          rcases zite_e H with ⟨c78, H⟩ | ⟨c78, H⟩
          · refine zA_brT (c := (lg_cmp v76 (x64.toInt64)) = 0) rfl rfl rfl c78 ?_
            refine zA_tr (L := [some (zrv x0), some (zrv x1), some (zrv x2), some (zrv x3), some (zrv x4), some (zI x5), none, none, none]) rfl rfl ?_
            refine zA_go rfl rfl ?_
            exact zA_tr (L := [some (zrv x0), some (zrv x1), some (zrv x2), some (zrv x3), some (zrv x4), some (zI x5), none, none, none]) rfl rfl (zmS291_2349 hk16 _ _ _ _ _ _ _ _ _ H)
          · refine zA_brF (c := (lg_cmp v76 (x64.toInt64)) = 0) rfl rfl rfl c78 ?_
            refine zA_push rfl rfl zkk7 ?_
            cases H
            exact zA_ret rfl (zret_Z (by decide))
        · refine zA_brT' (c := x40 = 0) rfl rfl rfl c68 ?_
          refine zA_tr (L := [some (zrv x0), some (zrv x1), some (zrv x2), some (zrv x3), some (zrv x4), some (zI x5), none, none, none]) rfl rfl ?_
          refine zA_go rfl rfl ?_
          exact zA_tr (L := [some (zrv x0), some (zrv x1), some (zrv x2), some (zrv x3), some (zrv x4), some (zI x5), none, none, none]) rfl rfl (zmS291_2349 hk16 _ _ _ _ _ _ _ _ _ H)
      · refine zA_brF (c := x66 = x40) rfl rfl rfl c67 ?_
        refine zA_push rfl rfl zkk7 ?_
        cases H
        exact zA_ret rfl (zret_Z (by decide))
    · cases H
      exact zA_callX (as := [zrv x2]) (st' := []) rfl rfl (zrcv_Q e61 c62) rfl (zmE137 _) rfl rfl rfl (zmS137 C)
  · cases H
    exact zA_callX (as := [zrv x2, zI v48, zI v57]) (st' := []) rfl rfl (zrcv_Q e61 c62) rfl (zmE221 _ _ _) rfl rfl rfl (zmS221 C)
def zm291_1604 (k16 : zq → zq → zq → zq → zq → Int32 → zH → zRs Int32) (x0 : zq) (x1 : zq) (x2 : zq) (x3 : zq) (x4 : zq) (x5 : Int32) (h : zH) : zRs Int32 :=
  zri x0 (x5 + (1 : Int32)) h fun v28 =>
  zri x0 (x5 + (2 : Int32)) h fun v37 =>
  zri x0 (x5 + (3 : Int32)) h fun v46 =>
  zri x0 (x5 + (4 : Int32)) h fun v55 =>
  zb2 (zm275 x1 v28 v37 v46 v55 x3 h) fun x58 h57 =>
  zri x0 (x5 + (1 : Int32)) h57 fun v66 =>
  zri x0 (x5 + (2 : Int32)) h57 fun v75 =>
  zri x0 (x5 + (3 : Int32)) h57 fun v84 =>
  zri x0 (x5 + (4 : Int32)) h57 fun v93 =>
  zob 12 x2 fun p95 i96 =>
  zb (zm220 x2 v66 v75 v84 v93 h57) fun x100 h99 =>
  zb (zm137 x2 h99) fun x102 h101 =>
  if x102 = x58 then
    if x58 = 0 then
      zrj x3 (0 : Int32) h101 fun v112 =>
      if (lg_cmp v112 (x100.toInt64)) = 0 then
        zm291_2349 k16 x0 x1 x2 x3 x4 x5 h101
      else
        some (.inl (0 : Int32), h101)
    else
      zm291_2349 k16 x0 x1 x2 x3 x4 x5 h101
  else
    some (.inl (0 : Int32), h101)
theorem zmS291_1604 {k16 : zq → zq → zq → zq → zq → Int32 → zH → zRs Int32} (hk16 : ∀ (x0 : zq) (x1 : zq) (x2 : zq) (x3 : zq) (x4 : zq) (x5 : Int32) (h : zH) (r : Int32 ⊕ Nat) (h' : zH), k16 x0 x1 x2 x3 x4 x5 h = some (r, h') → zAt 291 16 [some (zrv x0), some (zrv x1), some (zrv x2), some (zrv x3), some (zrv x4), some (zI x5), none, none, none] [] h (zoI r) h') : ∀ (x0 : zq) (x1 : zq) (x2 : zq) (x3 : zq) (x4 : zq) (x5 : Int32) (h : zH) (r : Int32 ⊕ Nat) (h' : zH), zm291_1604 k16 x0 x1 x2 x3 x4 x5 h = some (r, h') → zAt 291 1604 [some (zrv x0), some (zrv x1), some (zrv x2), some (zrv x3), some (zrv x4), some (zI x5), none, none, none] [] h (zoI r) h' := by
  intro x0 x1 x2 x3 x4 x5 h r h' H
  unfold zm291_1604 at H
  refine zA_aldn rfl rfl rfl ?_
  refine zA_aldn rfl rfl rfl ?_
  refine zA_ld rfl rfl rfl ?_
  refine zA_push rfl rfl zkk5 ?_
  refine zA_st (st' := [zI (x5 + (1 : Int32)), zrv x0, zrv x1]) rfl rfl rfl rfl ?_
  obtain ⟨p21, i22, j23, v28, e24, c25, c26, e27, e29, H⟩ := zri_e H
  refine zA_ial rfl rfl e24 c25 c26 e27 e29 ?_
  refine zA_aldn rfl rfl rfl ?_
  refine zA_ld rfl rfl rfl ?_
  refine zA_push rfl rfl zkk23 ?_
  refine zA_st (st' := [zI (x5 + (2 : Int32)), zrv x0, zI v28, zrv x1]) rfl rfl rfl rfl ?_
  obtain ⟨p30, i31, j32, v37, e33, c34, c35, e36, e38, H⟩ := zri_e H
  refine zA_ial rfl rfl e33 c34 c35 e36 e38 ?_
  refine zA_aldn rfl rfl rfl ?_
  refine zA_ld rfl rfl rfl ?_
  refine zA_push rfl rfl zkk3 ?_
  refine zA_st (st' := [zI (x5 + (3 : Int32)), zrv x0, zI v37, zI v28, zrv x1]) rfl rfl rfl rfl ?_
  obtain ⟨p39, i40, j41, v46, e42, c43, c44, e45, e47, H⟩ := zri_e H
  refine zA_ial rfl rfl e42 c43 c44 e45 e47 ?_
  refine zA_aldn rfl rfl rfl ?_
  refine zA_ld rfl rfl rfl ?_
  refine zA_push rfl rfl zkk9 ?_
  refine zA_st (st' := [zI (x5 + (4 : Int32)), zrv x0, zI v46, zI v37, zI v28, zrv x1]) rfl rfl rfl rfl ?_
  obtain ⟨p48, i49, j50, v55, e51, c52, c53, e54, e56, H⟩ := zri_e H
  refine zA_ial rfl rfl e51 c52 c53 e54 e56 ?_
  refine zA_aldn rfl rfl rfl ?_
  obtain ⟨x58, h57, C, H⟩ := zb2_e H
  refine zA_callV (as := [zrv x1, zI v28, zI v37, zI v46, zI v55, zrv x3]) (st' := []) rfl rfl rfl rfl rfl (zmE275 _ _ _ _ _ _) rfl (zmS275 C) ?_
  refine zA_ist2 rfl rfl rfl (zset1 (L' := [some (zrv x0), some (zrv x1), some (zrv x2), some (zrv x3), some (zrv x4), some (zI x5), some (zI x58), none, none]) rfl rfl (zpcV rfl rfl)) ?_
  refine zA_aldn rfl rfl rfl ?_
  refine zA_aldn rfl rfl rfl ?_
  refine zA_ld rfl rfl rfl ?_
  refine zA_push rfl rfl zkk5 ?_
  refine zA_st (st' := [zI (x5 + (1 : Int32)), zrv x0, zrv x2]) rfl rfl rfl rfl ?_
  obtain ⟨p59, i60, j61, v66, e62, c63, c64, e65, e67, H⟩ := zri_e H
  refine zA_ial rfl rfl e62 c63 c64 e65 e67 ?_
  refine zA_aldn rfl rfl rfl ?_
  refine zA_ld rfl rfl rfl ?_
  refine zA_push rfl rfl zkk23 ?_
  refine zA_st (st' := [zI (x5 + (2 : Int32)), zrv x0, zI v66, zrv x2]) rfl rfl rfl rfl ?_
  obtain ⟨p68, i69, j70, v75, e71, c72, c73, e74, e76, H⟩ := zri_e H
  refine zA_ial rfl rfl e71 c72 c73 e74 e76 ?_
  refine zA_aldn rfl rfl rfl ?_
  refine zA_ld rfl rfl rfl ?_
  refine zA_push rfl rfl zkk3 ?_
  refine zA_st (st' := [zI (x5 + (3 : Int32)), zrv x0, zI v75, zI v66, zrv x2]) rfl rfl rfl rfl ?_
  obtain ⟨p77, i78, j79, v84, e80, c81, c82, e83, e85, H⟩ := zri_e H
  refine zA_ial rfl rfl e80 c81 c82 e83 e85 ?_
  refine zA_aldn rfl rfl rfl ?_
  refine zA_ld rfl rfl rfl ?_
  refine zA_push rfl rfl zkk9 ?_
  refine zA_st (st' := [zI (x5 + (4 : Int32)), zrv x0, zI v84, zI v75, zI v66, zrv x2]) rfl rfl rfl rfl ?_
  obtain ⟨p86, i87, j88, v93, e89, c90, c91, e92, e94, H⟩ := zri_e H
  refine zA_ial rfl rfl e89 c90 c91 e92 e94 ?_
  obtain ⟨p95, i96, e97, c98, H⟩ := zob_e H
  rcases zb_e H with ⟨x100, h99, C, H⟩ | ⟨E, h99, C, H⟩
  · refine zA_callV (as := [zrv x2, zI v66, zI v75, zI v84, zI v93]) (st' := []) rfl rfl rfl (zrcv_Q e97 c98) rfl (zmE220 _ _ _ _ _) rfl (zmS220 C) ?_
    refine zA_ist2 rfl rfl rfl (zset1 (L' := [some (zrv x0), some (zrv x1), some (zrv x2), some (zrv x3), some (zrv x4), some (zI x5), some (zI x58), some (zI x100), none]) rfl rfl (zpcV rfl rfl)) ?_
    refine zA_aldn rfl rfl rfl ?_
    rcases zb_e H with ⟨x102, h101, C, H⟩ | ⟨E, h101, C, H⟩
    · refine zA_callV (as := [zrv x2]) (st' := []) rfl rfl rfl (zrcv_Q e97 c98) rfl (zmE137 _) rfl (zmS137 C) ?_
      refine zA_ld rfl rfl rfl ?_
      rcases zite_e H with ⟨c103, H⟩ | ⟨c103, H⟩
      · refine zA_brT (c := x102 = x58) rfl rfl rfl c103 ?_
        refine zA_ld rfl rfl rfl ?_
        rcases zite_e H with ⟨c104, H⟩ | ⟨c104, H⟩
        · refine zA_brF' (c := x58 = 0) rfl rfl rfl c104 ?_
          refine zA_aldn rfl rfl rfl ?_
          refine zA_push rfl rfl zkk7 ?_
          obtain ⟨p105, i106, j107, v112, e108, c109, c110, e111, e113, H⟩ := zrj_e H
          refine zA_lal rfl rfl e108 c109 c110 e111 e113 ?_
          refine zA_ld rfl rfl rfl ?_
          refine zA_st (st' := [zJ (x100.toInt64), zJ v112]) rfl rfl rfl rfl ?_
          refine zA_st (st' := [zI (lg_cmp v112 (x100.toInt64))]) rfl rfl rfl rfl ?_
          rcases zite_e H with ⟨c114, H⟩ | ⟨c114, H⟩
          · refine zA_brT (c := (lg_cmp v112 (x100.toInt64)) = 0) rfl rfl rfl c114 ?_
            refine zA_tr (L := [some (zrv x0), some (zrv x1), some (zrv x2), some (zrv x3), some (zrv x4), some (zI x5), none, none, none]) rfl rfl ?_
            refine zA_go rfl rfl ?_
            exact zA_tr (L := [some (zrv x0), some (zrv x1), some (zrv x2), some (zrv x3), some (zrv x4), some (zI x5), none, none, none]) rfl rfl (zmS291_2349 hk16 _ _ _ _ _ _ _ _ _ H)
          · refine zA_brF (c := (lg_cmp v112 (x100.toInt64)) = 0) rfl rfl rfl c114 ?_
            refine zA_push rfl rfl zkk7 ?_
            cases H
            exact zA_ret rfl (zret_Z (by decide))
        · refine zA_brT' (c := x58 = 0) rfl rfl rfl c104 ?_
          refine zA_tr (L := [some (zrv x0), some (zrv x1), some (zrv x2), some (zrv x3), some (zrv x4), some (zI x5), none, none, none]) rfl rfl ?_
          refine zA_go rfl rfl ?_
          exact zA_tr (L := [some (zrv x0), some (zrv x1), some (zrv x2), some (zrv x3), some (zrv x4), some (zI x5), none, none, none]) rfl rfl (zmS291_2349 hk16 _ _ _ _ _ _ _ _ _ H)
      · refine zA_brF (c := x102 = x58) rfl rfl rfl c103 ?_
        refine zA_push rfl rfl zkk7 ?_
        cases H
        exact zA_ret rfl (zret_Z (by decide))
    · cases H
      exact zA_callX (as := [zrv x2]) (st' := []) rfl rfl (zrcv_Q e97 c98) rfl (zmE137 _) rfl rfl rfl (zmS137 C)
  · cases H
    exact zA_callX (as := [zrv x2, zI v66, zI v75, zI v84, zI v93]) (st' := []) rfl rfl (zrcv_Q e97 c98) rfl (zmE220 _ _ _ _ _) rfl rfl rfl (zmS220 C)
def zm291_1599 (k16 : zq → zq → zq → zq → zq → Int32 → zH → zRs Int32) (x0 : zq) (x1 : zq) (x2 : zq) (x3 : zq) (x4 : zq) (x5 : Int32) (s0 : Int64) (s1 : Int64) (h : zH) : zRs Int32 :=
  if (lg_cmp s0 s1) = 0 then
    zm291_2349 k16 x0 x1 x2 x3 x4 x5 h
  else
    some (.inl (0 : Int32), h)
theorem zmS291_1599 {k16 : zq → zq → zq → zq → zq → Int32 → zH → zRs Int32} (hk16 : ∀ (x0 : zq) (x1 : zq) (x2 : zq) (x3 : zq) (x4 : zq) (x5 : Int32) (h : zH) (r : Int32 ⊕ Nat) (h' : zH), k16 x0 x1 x2 x3 x4 x5 h = some (r, h') → zAt 291 16 [some (zrv x0), some (zrv x1), some (zrv x2), some (zrv x3), some (zrv x4), some (zI x5), none, none, none] [] h (zoI r) h') : ∀ (x0 : zq) (x1 : zq) (x2 : zq) (x3 : zq) (x4 : zq) (x5 : Int32) (s0 : Int64) (s1 : Int64) (h : zH) (r : Int32 ⊕ Nat) (h' : zH), zm291_1599 k16 x0 x1 x2 x3 x4 x5 s0 s1 h = some (r, h') → zAt 291 1599 [some (zrv x0), some (zrv x1), some (zrv x2), some (zrv x3), some (zrv x4), some (zI x5), none, none, none] [zJ s1, zJ s0] h (zoI r) h' := by
  intro x0 x1 x2 x3 x4 x5 s0 s1 h r h' H
  unfold zm291_1599 at H
  refine zA_st (st' := [zI (lg_cmp s0 s1)]) rfl rfl rfl rfl ?_
  rcases zite_e H with ⟨c21, H⟩ | ⟨c21, H⟩
  · refine zA_brT (c := (lg_cmp s0 s1) = 0) rfl rfl rfl c21 ?_
    refine zA_go rfl rfl ?_
    exact zA_tr (L := [some (zrv x0), some (zrv x1), some (zrv x2), some (zrv x3), some (zrv x4), some (zI x5), none, none, none]) rfl rfl (zmS291_2349 hk16 _ _ _ _ _ _ _ _ _ H)
  · refine zA_brF (c := (lg_cmp s0 s1) = 0) rfl rfl rfl c21 ?_
    refine zA_push rfl rfl zkk7 ?_
    cases H
    exact zA_ret rfl (zret_Z (by decide))
def zm291_1566 (k16 : zq → zq → zq → zq → zq → Int32 → zH → zRs Int32) (x0 : zq) (x1 : zq) (x2 : zq) (x3 : zq) (x4 : zq) (x5 : Int32) (h : zH) : zRs Int32 :=
  zri x0 (x5 + (1 : Int32)) h fun v28 =>
  zb2 (zm274 x1 v28 x3 h) fun x31 h30 =>
  zri x0 (x5 + (1 : Int32)) h30 fun v39 =>
  zob 12 x2 fun p41 i42 =>
  zb (zm219 x2 v39 h30) fun x46 h45 =>
  zb (zm137 x2 h45) fun x48 h47 =>
  if x48 = x31 then
    if x31 = 0 then
      zrj x3 (0 : Int32) h47 fun v58 =>
      if x46 = 0 then
        zm291_1599 k16 x0 x1 x2 x3 x4 x5 v58 (0 : Int64) h47
      else
        zm291_1599 k16 x0 x1 x2 x3 x4 x5 v58 (1 : Int64) h47
    else
      zm291_2349 k16 x0 x1 x2 x3 x4 x5 h47
  else
    some (.inl (0 : Int32), h47)
theorem zmS291_1566 {k16 : zq → zq → zq → zq → zq → Int32 → zH → zRs Int32} (hk16 : ∀ (x0 : zq) (x1 : zq) (x2 : zq) (x3 : zq) (x4 : zq) (x5 : Int32) (h : zH) (r : Int32 ⊕ Nat) (h' : zH), k16 x0 x1 x2 x3 x4 x5 h = some (r, h') → zAt 291 16 [some (zrv x0), some (zrv x1), some (zrv x2), some (zrv x3), some (zrv x4), some (zI x5), none, none, none] [] h (zoI r) h') : ∀ (x0 : zq) (x1 : zq) (x2 : zq) (x3 : zq) (x4 : zq) (x5 : Int32) (h : zH) (r : Int32 ⊕ Nat) (h' : zH), zm291_1566 k16 x0 x1 x2 x3 x4 x5 h = some (r, h') → zAt 291 1566 [some (zrv x0), some (zrv x1), some (zrv x2), some (zrv x3), some (zrv x4), some (zI x5), none, none, none] [] h (zoI r) h' := by
  intro x0 x1 x2 x3 x4 x5 h r h' H
  unfold zm291_1566 at H
  refine zA_aldn rfl rfl rfl ?_
  refine zA_aldn rfl rfl rfl ?_
  refine zA_ld rfl rfl rfl ?_
  refine zA_push rfl rfl zkk5 ?_
  refine zA_st (st' := [zI (x5 + (1 : Int32)), zrv x0, zrv x1]) rfl rfl rfl rfl ?_
  obtain ⟨p21, i22, j23, v28, e24, c25, c26, e27, e29, H⟩ := zri_e H
  refine zA_ial rfl rfl e24 c25 c26 e27 e29 ?_
  refine zA_aldn rfl rfl rfl ?_
  obtain ⟨x31, h30, C, H⟩ := zb2_e H
  refine zA_callV (as := [zrv x1, zI v28, zrv x3]) (st' := []) rfl rfl rfl rfl rfl (zmE274 _ _ _) rfl (zmS274 C) ?_
  refine zA_ist2 rfl rfl rfl (zset1 (L' := [some (zrv x0), some (zrv x1), some (zrv x2), some (zrv x3), some (zrv x4), some (zI x5), some (zI x31), none, none]) rfl rfl (zpcV rfl rfl)) ?_
  refine zA_aldn rfl rfl rfl ?_
  refine zA_aldn rfl rfl rfl ?_
  refine zA_ld rfl rfl rfl ?_
  refine zA_push rfl rfl zkk5 ?_
  refine zA_st (st' := [zI (x5 + (1 : Int32)), zrv x0, zrv x2]) rfl rfl rfl rfl ?_
  obtain ⟨p32, i33, j34, v39, e35, c36, c37, e38, e40, H⟩ := zri_e H
  refine zA_ial rfl rfl e35 c36 c37 e38 e40 ?_
  obtain ⟨p41, i42, e43, c44, H⟩ := zob_e H
  rcases zb_e H with ⟨x46, h45, C, H⟩ | ⟨E, h45, C, H⟩
  · refine zA_callV (as := [zrv x2, zI v39]) (st' := []) rfl rfl rfl (zrcv_Q e43 c44) rfl (zmE219 _ _) rfl (zmS219 C) ?_
    refine zA_ist2 rfl rfl rfl (zset1 (L' := [some (zrv x0), some (zrv x1), some (zrv x2), some (zrv x3), some (zrv x4), some (zI x5), some (zI x31), some (zI x46), none]) rfl rfl (zpcV rfl rfl)) ?_
    refine zA_aldn rfl rfl rfl ?_
    rcases zb_e H with ⟨x48, h47, C, H⟩ | ⟨E, h47, C, H⟩
    · refine zA_callV (as := [zrv x2]) (st' := []) rfl rfl rfl (zrcv_Q e43 c44) rfl (zmE137 _) rfl (zmS137 C) ?_
      refine zA_ld rfl rfl rfl ?_
      rcases zite_e H with ⟨c49, H⟩ | ⟨c49, H⟩
      · refine zA_brT (c := x48 = x31) rfl rfl rfl c49 ?_
        refine zA_ld rfl rfl rfl ?_
        rcases zite_e H with ⟨c50, H⟩ | ⟨c50, H⟩
        · refine zA_brF' (c := x31 = 0) rfl rfl rfl c50 ?_
          refine zA_aldn rfl rfl rfl ?_
          refine zA_push rfl rfl zkk7 ?_
          obtain ⟨p51, i52, j53, v58, e54, c55, c56, e57, e59, H⟩ := zrj_e H
          refine zA_lal rfl rfl e54 c55 c56 e57 e59 ?_
          refine zA_ld rfl rfl rfl ?_
          rcases zite_e H with ⟨c60, H⟩ | ⟨c60, H⟩
          · refine zA_brT (c := x46 = 0) rfl rfl rfl c60 ?_
            refine zA_tr (L := [some (zrv x0), some (zrv x1), some (zrv x2), some (zrv x3), some (zrv x4), some (zI x5), none, none, none]) rfl rfl ?_
            refine zA_push rfl rfl zkk24 ?_
            exact zA_tr (L := [some (zrv x0), some (zrv x1), some (zrv x2), some (zrv x3), some (zrv x4), some (zI x5), none, none, none]) rfl rfl (zmS291_1599 hk16 _ _ _ _ _ _ _ _ _ _ _ H)
          · refine zA_brF (c := x46 = 0) rfl rfl rfl c60 ?_
            refine zA_push rfl rfl zkk25 ?_
            refine zA_go rfl rfl ?_
            exact zA_tr (L := [some (zrv x0), some (zrv x1), some (zrv x2), some (zrv x3), some (zrv x4), some (zI x5), none, none, none]) rfl rfl (zmS291_1599 hk16 _ _ _ _ _ _ _ _ _ _ _ H)
        · refine zA_brT' (c := x31 = 0) rfl rfl rfl c50 ?_
          refine zA_tr (L := [some (zrv x0), some (zrv x1), some (zrv x2), some (zrv x3), some (zrv x4), some (zI x5), none, none, none]) rfl rfl ?_
          refine zA_go rfl rfl ?_
          exact zA_tr (L := [some (zrv x0), some (zrv x1), some (zrv x2), some (zrv x3), some (zrv x4), some (zI x5), none, none, none]) rfl rfl (zmS291_2349 hk16 _ _ _ _ _ _ _ _ _ H)
      · refine zA_brF (c := x48 = x31) rfl rfl rfl c49 ?_
        refine zA_push rfl rfl zkk7 ?_
        cases H
        exact zA_ret rfl (zret_Z (by decide))
    · cases H
      exact zA_callX (as := [zrv x2]) (st' := []) rfl rfl (zrcv_Q e43 c44) rfl (zmE137 _) rfl rfl rfl (zmS137 C)
  · cases H
    exact zA_callX (as := [zrv x2, zI v39]) (st' := []) rfl rfl (zrcv_Q e43 c44) rfl (zmE219 _ _) rfl rfl rfl (zmS219 C)
def zm291_1534 (k16 : zq → zq → zq → zq → zq → Int32 → zH → zRs Int32) (x0 : zq) (x1 : zq) (x2 : zq) (x3 : zq) (x4 : zq) (x5 : Int32) (x6 : Int32) (s0 : zq) (s1 : Int32) (s2 : Int32) (s3 : Int32) (h : zH) : zRs Int32 :=
  zob 12 s0 fun p21 i22 =>
  zb (zm218 s0 s1 s2 s3 h) fun x26 h25 =>
  zob 12 x2 fun p27 i28 =>
  zb (zm137 x2 h25) fun x32 h31 =>
  if x32 = x6 then
    if x6 = 0 then
      zrd x4 (0 : Int32) h31 fun v42 =>
      zif (FP.f2d x26 &&& 0x7fffffffffffffff ≤ 0x7ff0000000000000) <|
      if (Op.cmpValue (FP.dcmp v42 (FP.f2d x26)) .l) = 0 then
        zm291_2349 k16 x0 x1 x2 x3 x4 x5 h31
      else
        zrd x4 (0 : Int32) h31 fun v53 =>
        zrd x4 (0 : Int32) h31 fun v62 =>
        if (Op.cmpValue (FP.dcmp v53 v62) .l) = 0 then
          some (.inl (0 : Int32), h31)
        else
          if (Op.cmpValue (FP.fcmp x26 x26) .l) = 0 then
            some (.inl (0 : Int32), h31)
          else
            zm291_2349 k16 x0 x1 x2 x3 x4 x5 h31
    else
      zm291_2349 k16 x0 x1 x2 x3 x4 x5 h31
  else
    some (.inl (0 : Int32), h31)
theorem zmS291_1534 {k16 : zq → zq → zq → zq → zq → Int32 → zH → zRs Int32} (hk16 : ∀ (x0 : zq) (x1 : zq) (x2 : zq) (x3 : zq) (x4 : zq) (x5 : Int32) (h : zH) (r : Int32 ⊕ Nat) (h' : zH), k16 x0 x1 x2 x3 x4 x5 h = some (r, h') → zAt 291 16 [some (zrv x0), some (zrv x1), some (zrv x2), some (zrv x3), some (zrv x4), some (zI x5), none, none, none] [] h (zoI r) h') : ∀ (x0 : zq) (x1 : zq) (x2 : zq) (x3 : zq) (x4 : zq) (x5 : Int32) (x6 : Int32) (s0 : zq) (s1 : Int32) (s2 : Int32) (s3 : Int32) (h : zH) (r : Int32 ⊕ Nat) (h' : zH), zm291_1534 k16 x0 x1 x2 x3 x4 x5 x6 s0 s1 s2 s3 h = some (r, h') → zAt 291 1534 [some (zrv x0), some (zrv x1), some (zrv x2), some (zrv x3), some (zrv x4), some (zI x5), some (zI x6), none, none] [zI s3, zI s2, zI s1, zrv s0] h (zoI r) h' := by
  intro x0 x1 x2 x3 x4 x5 x6 s0 s1 s2 s3 h r h' H
  unfold zm291_1534 at H
  obtain ⟨p21, i22, e23, c24, H⟩ := zob_e H
  rcases zb_e H with ⟨x26, h25, C, H⟩ | ⟨E, h25, C, H⟩
  · refine zA_callV (as := [zrv s0, zI s1, zI s2, zI s3]) (st' := []) rfl rfl rfl (zrcv_Q e23 c24) rfl (zmE218 _ _ _ _) rfl (zmS218 C) ?_
    refine zA_fst2 rfl rfl rfl (zset1 (L' := [some (zrv x0), some (zrv x1), some (zrv x2), some (zrv x3), some (zrv x4), some (zI x5), some (zI x6), some (zF x26), none]) rfl rfl (zpcV rfl rfl)) ?_
    refine zA_aldn rfl rfl rfl ?_
    obtain ⟨p27, i28, e29, c30, H⟩ := zob_e H
    rcases zb_e H with ⟨x32, h31, C, H⟩ | ⟨E, h31, C, H⟩
    · refine zA_callV (as := [zrv x2]) (st' := []) rfl rfl rfl (zrcv_Q e29 c30) rfl (zmE137 _) rfl (zmS137 C) ?_
      refine zA_ld rfl rfl rfl ?_
      rcases zite_e H with ⟨c33, H⟩ | ⟨c33, H⟩
      · refine zA_brT (c := x32 = x6) rfl rfl rfl c33 ?_
        refine zA_ld rfl rfl rfl ?_
        rcases zite_e H with ⟨c34, H⟩ | ⟨c34, H⟩
        · refine zA_brF' (c := x6 = 0) rfl rfl rfl c34 ?_
          refine zA_ald rfl rfl rfl ?_
          refine zA_push rfl rfl zkk7 ?_
          obtain ⟨p35, i36, j37, v42, e38, c39, c40, e41, e43, H⟩ := zrd_e H
          refine zA_dal rfl rfl e38 c39 c40 e41 e43 ?_
          refine zA_fld rfl rfl rfl ?_
          obtain ⟨c44, H⟩ := zif_e H
          refine zA_f2d rfl rfl c44 ?_
          refine zA_st (st' := [zI (Op.cmpValue (FP.dcmp v42 (FP.f2d x26)) .l)]) rfl rfl rfl rfl ?_
          rcases zite_e H with ⟨c45, H⟩ | ⟨c45, H⟩
          · refine zA_brT (c := (Op.cmpValue (FP.dcmp v42 (FP.f2d x26)) .l) = 0) rfl rfl rfl c45 ?_
            refine zA_tr (L := [some (zrv x0), some (zrv x1), some (zrv x2), some (zrv x3), some (zrv x4), some (zI x5), none, none, none]) rfl rfl ?_
            refine zA_go rfl rfl ?_
            exact zA_tr (L := [some (zrv x0), some (zrv x1), some (zrv x2), some (zrv x3), some (zrv x4), some (zI x5), none, none, none]) rfl rfl (zmS291_2349 hk16 _ _ _ _ _ _ _ _ _ H)
          · refine zA_brF (c := (Op.cmpValue (FP.dcmp v42 (FP.f2d x26)) .l) = 0) rfl rfl rfl c45 ?_
            refine zA_ald rfl rfl rfl ?_
            refine zA_push rfl rfl zkk7 ?_
            obtain ⟨p46, i47, j48, v53, e49, c50, c51, e52, e54, H⟩ := zrd_e H
            refine zA_dal rfl rfl e49 c50 c51 e52 e54 ?_
            refine zA_ald rfl rfl rfl ?_
            refine zA_push rfl rfl zkk7 ?_
            obtain ⟨p55, i56, j57, v62, e58, c59, c60, e61, e63, H⟩ := zrd_e H
            refine zA_dal rfl rfl e58 c59 c60 e61 e63 ?_
            refine zA_st (st' := [zI (Op.cmpValue (FP.dcmp v53 v62) .l)]) rfl rfl rfl rfl ?_
            rcases zite_e H with ⟨c64, H⟩ | ⟨c64, H⟩
            · refine zA_brT (c := (Op.cmpValue (FP.dcmp v53 v62) .l) = 0) rfl rfl rfl c64 ?_
              refine zA_tr (L := [none, none, none, none, none, none, none, none, none]) rfl rfl ?_
              refine zA_push rfl rfl zkk7 ?_
              cases H
              exact zA_ret rfl (zret_Z (by decide))
            · refine zA_brF (c := (Op.cmpValue (FP.dcmp v53 v62) .l) = 0) rfl rfl rfl c64 ?_
              refine zA_fld rfl rfl rfl ?_
              refine zA_fld rfl rfl rfl ?_
              refine zA_st (st' := [zI (Op.cmpValue (FP.fcmp x26 x26) .l)]) rfl rfl rfl rfl ?_
              rcases zite_e H with ⟨c65, H⟩ | ⟨c65, H⟩
              · refine zA_brF' (c := (Op.cmpValue (FP.fcmp x26 x26) .l) = 0) rfl rfl rfl c65 ?_
                refine zA_tr (L := [none, none, none, none, none, none, none, none, none]) rfl rfl ?_
                refine zA_push rfl rfl zkk7 ?_
                cases H
                exact zA_ret rfl (zret_Z (by decide))
              · refine zA_brT' (c := (Op.cmpValue (FP.fcmp x26 x26) .l) = 0) rfl rfl rfl c65 ?_
                refine zA_tr (L := [some (zrv x0), some (zrv x1), some (zrv x2), some (zrv x3), some (zrv x4), some (zI x5), none, none, none]) rfl rfl ?_
                refine zA_go rfl rfl ?_
                exact zA_tr (L := [some (zrv x0), some (zrv x1), some (zrv x2), some (zrv x3), some (zrv x4), some (zI x5), none, none, none]) rfl rfl (zmS291_2349 hk16 _ _ _ _ _ _ _ _ _ H)
        · refine zA_brT' (c := x6 = 0) rfl rfl rfl c34 ?_
          refine zA_tr (L := [some (zrv x0), some (zrv x1), some (zrv x2), some (zrv x3), some (zrv x4), some (zI x5), none, none, none]) rfl rfl ?_
          refine zA_go rfl rfl ?_
          exact zA_tr (L := [some (zrv x0), some (zrv x1), some (zrv x2), some (zrv x3), some (zrv x4), some (zI x5), none, none, none]) rfl rfl (zmS291_2349 hk16 _ _ _ _ _ _ _ _ _ H)
      · refine zA_brF (c := x32 = x6) rfl rfl rfl c33 ?_
        refine zA_push rfl rfl zkk7 ?_
        cases H
        exact zA_ret rfl (zret_Z (by decide))
    · cases H
      exact zA_callX (as := [zrv x2]) (st' := []) rfl rfl (zrcv_Q e29 c30) rfl (zmE137 _) rfl rfl rfl (zmS137 C)
  · cases H
    exact zA_callX (as := [zrv s0, zI s1, zI s2, zI s3]) (st' := []) rfl rfl (zrcv_Q e23 c24) rfl (zmE218 _ _ _ _) rfl rfl rfl (zmS218 C)
def zm291_1511 (k16 : zq → zq → zq → zq → zq → Int32 → zH → zRs Int32) (x0 : zq) (x1 : zq) (x2 : zq) (x3 : zq) (x4 : zq) (x5 : Int32) (s0 : zq) (s1 : Int32) (s2 : Int32) (s3 : Int32) (h : zH) : zRs Int32 :=
  zb2 (zm273 s0 s1 s2 s3 x4 h) fun x22 h21 =>
  zri x0 (x5 + (1 : Int32)) h21 fun v30 =>
  zri x0 (x5 + (2 : Int32)) h21 fun v39 =>
  zri x0 (x5 + (3 : Int32)) h21 fun v48 =>
  if v48 = 0 then
    zm291_1534 k16 x0 x1 x2 x3 x4 x5 x22 x2 v30 v39 (0 : Int32) h21
  else
    zm291_1534 k16 x0 x1 x2 x3 x4 x5 x22 x2 v30 v39 (1 : Int32) h21
theorem zmS291_1511 {k16 : zq → zq → zq → zq → zq → Int32 → zH → zRs Int32} (hk16 : ∀ (x0 : zq) (x1 : zq) (x2 : zq) (x3 : zq) (x4 : zq) (x5 : Int32) (h : zH) (r : Int32 ⊕ Nat) (h' : zH), k16 x0 x1 x2 x3 x4 x5 h = some (r, h') → zAt 291 16 [some (zrv x0), some (zrv x1), some (zrv x2), some (zrv x3), some (zrv x4), some (zI x5), none, none, none] [] h (zoI r) h') : ∀ (x0 : zq) (x1 : zq) (x2 : zq) (x3 : zq) (x4 : zq) (x5 : Int32) (s0 : zq) (s1 : Int32) (s2 : Int32) (s3 : Int32) (h : zH) (r : Int32 ⊕ Nat) (h' : zH), zm291_1511 k16 x0 x1 x2 x3 x4 x5 s0 s1 s2 s3 h = some (r, h') → zAt 291 1511 [some (zrv x0), some (zrv x1), some (zrv x2), some (zrv x3), some (zrv x4), some (zI x5), none, none, none] [zI s3, zI s2, zI s1, zrv s0] h (zoI r) h' := by
  intro x0 x1 x2 x3 x4 x5 s0 s1 s2 s3 h r h' H
  unfold zm291_1511 at H
  refine zA_ald rfl rfl rfl ?_
  obtain ⟨x22, h21, C, H⟩ := zb2_e H
  refine zA_callV (as := [zrv s0, zI s1, zI s2, zI s3, zrv x4]) (st' := []) rfl rfl rfl rfl rfl (zmE273 _ _ _ _ _) rfl (zmS273 C) ?_
  refine zA_ist2 rfl rfl rfl (zset1 (L' := [some (zrv x0), some (zrv x1), some (zrv x2), some (zrv x3), some (zrv x4), some (zI x5), some (zI x22), none, none]) rfl rfl (zpcV rfl rfl)) ?_
  refine zA_aldn rfl rfl rfl ?_
  refine zA_aldn rfl rfl rfl ?_
  refine zA_ld rfl rfl rfl ?_
  refine zA_push rfl rfl zkk5 ?_
  refine zA_st (st' := [zI (x5 + (1 : Int32)), zrv x0, zrv x2]) rfl rfl rfl rfl ?_
  obtain ⟨p23, i24, j25, v30, e26, c27, c28, e29, e31, H⟩ := zri_e H
  refine zA_ial rfl rfl e26 c27 c28 e29 e31 ?_
  refine zA_aldn rfl rfl rfl ?_
  refine zA_ld rfl rfl rfl ?_
  refine zA_push rfl rfl zkk23 ?_
  refine zA_st (st' := [zI (x5 + (2 : Int32)), zrv x0, zI v30, zrv x2]) rfl rfl rfl rfl ?_
  obtain ⟨p32, i33, j34, v39, e35, c36, c37, e38, e40, H⟩ := zri_e H
  refine zA_ial rfl rfl e35 c36 c37 e38 e40 ?_
  refine zA_aldn rfl rfl rfl ?_
  refine zA_ld rfl rfl rfl ?_
  refine zA_push rfl rfl zkk3 ?_
  refine zA_st (st' := [zI (x5 + (3 : Int32)), zrv x0, zI v39, zI v30, zrv x2]) rfl rfl rfl rfl ?_
  obtain ⟨p41, i42, j43, v48, e44, c45, c46, e47, e49, H⟩ := zri_e H
  refine zA_ial rfl rfl e44 c45 c46 e47 e49 ?_
  rcases zite_e H with ⟨c50, H⟩ | ⟨c50, H⟩
  · refine zA_brT (c := v48 = 0) rfl rfl rfl c50 ?_
    refine zA_push rfl rfl zkk7 ?_
    exact zA_tr (L := [some (zrv x0), some (zrv x1), some (zrv x2), some (zrv x3), some (zrv x4), some (zI x5), some (zI x22), none, none]) rfl rfl (zmS291_1534 hk16 _ _ _ _ _ _ _ _ _ _ _ _ _ _ H)
  · refine zA_brF (c := v48 = 0) rfl rfl rfl c50 ?_
    refine zA_push rfl rfl zkk5 ?_
    refine zA_go rfl rfl ?_
    exact zA_tr (L := [some (zrv x0), some (zrv x1), some (zrv x2), some (zrv x3), some (zrv x4), some (zI x5), some (zI x22), none, none]) rfl rfl (zmS291_1534 hk16 _ _ _ _ _ _ _ _ _ _ _ _ _ _ H)
def zm291_1491 (k16 : zq → zq → zq → zq → zq → Int32 → zH → zRs Int32) (x0 : zq) (x1 : zq) (x2 : zq) (x3 : zq) (x4 : zq) (x5 : Int32) (h : zH) : zRs Int32 :=
  zri x0 (x5 + (1 : Int32)) h fun v28 =>
  zri x0 (x5 + (2 : Int32)) h fun v37 =>
  zri x0 (x5 + (3 : Int32)) h fun v46 =>
  if v46 = 0 then
    zm291_1511 k16 x0 x1 x2 x3 x4 x5 x1 v28 v37 (0 : Int32) h
  else
    zm291_1511 k16 x0 x1 x2 x3 x4 x5 x1 v28 v37 (1 : Int32) h
theorem zmS291_1491 {k16 : zq → zq → zq → zq → zq → Int32 → zH → zRs Int32} (hk16 : ∀ (x0 : zq) (x1 : zq) (x2 : zq) (x3 : zq) (x4 : zq) (x5 : Int32) (h : zH) (r : Int32 ⊕ Nat) (h' : zH), k16 x0 x1 x2 x3 x4 x5 h = some (r, h') → zAt 291 16 [some (zrv x0), some (zrv x1), some (zrv x2), some (zrv x3), some (zrv x4), some (zI x5), none, none, none] [] h (zoI r) h') : ∀ (x0 : zq) (x1 : zq) (x2 : zq) (x3 : zq) (x4 : zq) (x5 : Int32) (h : zH) (r : Int32 ⊕ Nat) (h' : zH), zm291_1491 k16 x0 x1 x2 x3 x4 x5 h = some (r, h') → zAt 291 1491 [some (zrv x0), some (zrv x1), some (zrv x2), some (zrv x3), some (zrv x4), some (zI x5), none, none, none] [] h (zoI r) h' := by
  intro x0 x1 x2 x3 x4 x5 h r h' H
  unfold zm291_1491 at H
  refine zA_aldn rfl rfl rfl ?_
  refine zA_aldn rfl rfl rfl ?_
  refine zA_ld rfl rfl rfl ?_
  refine zA_push rfl rfl zkk5 ?_
  refine zA_st (st' := [zI (x5 + (1 : Int32)), zrv x0, zrv x1]) rfl rfl rfl rfl ?_
  obtain ⟨p21, i22, j23, v28, e24, c25, c26, e27, e29, H⟩ := zri_e H
  refine zA_ial rfl rfl e24 c25 c26 e27 e29 ?_
  refine zA_aldn rfl rfl rfl ?_
  refine zA_ld rfl rfl rfl ?_
  refine zA_push rfl rfl zkk23 ?_
  refine zA_st (st' := [zI (x5 + (2 : Int32)), zrv x0, zI v28, zrv x1]) rfl rfl rfl rfl ?_
  obtain ⟨p30, i31, j32, v37, e33, c34, c35, e36, e38, H⟩ := zri_e H
  refine zA_ial rfl rfl e33 c34 c35 e36 e38 ?_
  refine zA_aldn rfl rfl rfl ?_
  refine zA_ld rfl rfl rfl ?_
  refine zA_push rfl rfl zkk3 ?_
  refine zA_st (st' := [zI (x5 + (3 : Int32)), zrv x0, zI v37, zI v28, zrv x1]) rfl rfl rfl rfl ?_
  obtain ⟨p39, i40, j41, v46, e42, c43, c44, e45, e47, H⟩ := zri_e H
  refine zA_ial rfl rfl e42 c43 c44 e45 e47 ?_
  rcases zite_e H with ⟨c48, H⟩ | ⟨c48, H⟩
  · refine zA_brT (c := v46 = 0) rfl rfl rfl c48 ?_
    refine zA_push rfl rfl zkk7 ?_
    exact zA_tr (L := [some (zrv x0), some (zrv x1), some (zrv x2), some (zrv x3), some (zrv x4), some (zI x5), none, none, none]) rfl rfl (zmS291_1511 hk16 _ _ _ _ _ _ _ _ _ _ _ _ _ H)
  · refine zA_brF (c := v46 = 0) rfl rfl rfl c48 ?_
    refine zA_push rfl rfl zkk5 ?_
    refine zA_go rfl rfl ?_
    exact zA_tr (L := [some (zrv x0), some (zrv x1), some (zrv x2), some (zrv x3), some (zrv x4), some (zI x5), none, none, none]) rfl rfl (zmS291_1511 hk16 _ _ _ _ _ _ _ _ _ _ _ _ _ H)
def zm291_1446 (k16 : zq → zq → zq → zq → zq → Int32 → zH → zRs Int32) (x0 : zq) (x1 : zq) (x2 : zq) (x3 : zq) (x4 : zq) (x5 : Int32) (h : zH) : zRs Int32 :=
  zri x0 (x5 + (1 : Int32)) h fun v28 =>
  zri x0 (x5 + (2 : Int32)) h fun v37 =>
  zb2 (zm272 x1 v28 v37 x3 h) fun x40 h39 =>
  zri x0 (x5 + (1 : Int32)) h39 fun v48 =>
  zri x0 (x5 + (2 : Int32)) h39 fun v57 =>
  zob 12 x2 fun p59 i60 =>
  zb (zm217 x2 v48 v57 h39) fun x64 h63 =>
  zb (zm137 x2 h63) fun x66 h65 =>
  if x66 = x40 then
    if x40 = 0 then
      zrj x3 (0 : Int32) h65 fun v76 =>
      if (lg_cmp v76 (x64.toInt64)) = 0 then
        zm291_2349 k16 x0 x1 x2 x3 x4 x5 h65
      else
        some (.inl (0 : Int32), h65)
    else
      zm291_2349 k16 x0 x1 x2 x3 x4 x5 h65
  else
    some (.inl (0 : Int32), h65)
theorem zmS291_1446 {k16 : zq → zq → zq → zq → zq → Int32 → zH → zRs Int32} (hk16 : ∀ (x0 : zq) (x1 : zq) (x2 : zq) (x3 : zq) (x4 : zq) (x5 : Int32) (h : zH) (r : Int32 ⊕ Nat) (h' : zH), k16 x0 x1 x2 x3 x4 x5 h = some (r, h') → zAt 291 16 [some (zrv x0), some (zrv x1), some (zrv x2), some (zrv x3), some (zrv x4), some (zI x5), none, none, none] [] h (zoI r) h') : ∀ (x0 : zq) (x1 : zq) (x2 : zq) (x3 : zq) (x4 : zq) (x5 : Int32) (h : zH) (r : Int32 ⊕ Nat) (h' : zH), zm291_1446 k16 x0 x1 x2 x3 x4 x5 h = some (r, h') → zAt 291 1446 [some (zrv x0), some (zrv x1), some (zrv x2), some (zrv x3), some (zrv x4), some (zI x5), none, none, none] [] h (zoI r) h' := by
  intro x0 x1 x2 x3 x4 x5 h r h' H
  unfold zm291_1446 at H
  refine zA_aldn rfl rfl rfl ?_
  refine zA_aldn rfl rfl rfl ?_
  refine zA_ld rfl rfl rfl ?_
  refine zA_push rfl rfl zkk5 ?_
  refine zA_st (st' := [zI (x5 + (1 : Int32)), zrv x0, zrv x1]) rfl rfl rfl rfl ?_
  obtain ⟨p21, i22, j23, v28, e24, c25, c26, e27, e29, H⟩ := zri_e H
  refine zA_ial rfl rfl e24 c25 c26 e27 e29 ?_
  refine zA_aldn rfl rfl rfl ?_
  refine zA_ld rfl rfl rfl ?_
  refine zA_push rfl rfl zkk23 ?_
  refine zA_st (st' := [zI (x5 + (2 : Int32)), zrv x0, zI v28, zrv x1]) rfl rfl rfl rfl ?_
  obtain ⟨p30, i31, j32, v37, e33, c34, c35, e36, e38, H⟩ := zri_e H
  refine zA_ial rfl rfl e33 c34 c35 e36 e38 ?_
  refine zA_aldn rfl rfl rfl ?_
  obtain ⟨x40, h39, C, H⟩ := zb2_e H
  refine zA_callV (as := [zrv x1, zI v28, zI v37, zrv x3]) (st' := []) rfl rfl rfl rfl rfl (zmE272 _ _ _ _) rfl (zmS272 C) ?_
  refine zA_ist2 rfl rfl rfl (zset1 (L' := [some (zrv x0), some (zrv x1), some (zrv x2), some (zrv x3), some (zrv x4), some (zI x5), some (zI x40), none, none]) rfl rfl (zpcV rfl rfl)) ?_
  refine zA_aldn rfl rfl rfl ?_
  refine zA_aldn rfl rfl rfl ?_
  refine zA_ld rfl rfl rfl ?_
  refine zA_push rfl rfl zkk5 ?_
  refine zA_st (st' := [zI (x5 + (1 : Int32)), zrv x0, zrv x2]) rfl rfl rfl rfl ?_
  obtain ⟨p41, i42, j43, v48, e44, c45, c46, e47, e49, H⟩ := zri_e H
  refine zA_ial rfl rfl e44 c45 c46 e47 e49 ?_
  refine zA_aldn rfl rfl rfl ?_
  refine zA_ld rfl rfl rfl ?_
  refine zA_push rfl rfl zkk23 ?_
  refine zA_st (st' := [zI (x5 + (2 : Int32)), zrv x0, zI v48, zrv x2]) rfl rfl rfl rfl ?_
  obtain ⟨p50, i51, j52, v57, e53, c54, c55, e56, e58, H⟩ := zri_e H
  refine zA_ial rfl rfl e53 c54 c55 e56 e58 ?_
  obtain ⟨p59, i60, e61, c62, H⟩ := zob_e H
  rcases zb_e H with ⟨x64, h63, C, H⟩ | ⟨E, h63, C, H⟩
  · refine zA_callV (as := [zrv x2, zI v48, zI v57]) (st' := []) rfl rfl rfl (zrcv_Q e61 c62) rfl (zmE217 _ _ _) rfl (zmS217 C) ?_
    refine zA_ist2 rfl rfl rfl (zset1 (L' := [some (zrv x0), some (zrv x1), some (zrv x2), some (zrv x3), some (zrv x4), some (zI x5), some (zI x40), some (zI x64), none]) rfl rfl (zpcV rfl rfl)) ?_
    refine zA_aldn rfl rfl rfl ?_
    rcases zb_e H with ⟨x66, h65, C, H⟩ | ⟨E, h65, C, H⟩
    · refine zA_callV (as := [zrv x2]) (st' := []) rfl rfl rfl (zrcv_Q e61 c62) rfl (zmE137 _) rfl (zmS137 C) ?_
      refine zA_ld rfl rfl rfl ?_
      rcases zite_e H with ⟨c67, H⟩ | ⟨c67, H⟩
      · refine zA_brT (c := x66 = x40) rfl rfl rfl c67 ?_
        refine zA_ld rfl rfl rfl ?_
        rcases zite_e H with ⟨c68, H⟩ | ⟨c68, H⟩
        · refine zA_brF' (c := x40 = 0) rfl rfl rfl c68 ?_
          refine zA_aldn rfl rfl rfl ?_
          refine zA_push rfl rfl zkk7 ?_
          obtain ⟨p69, i70, j71, v76, e72, c73, c74, e75, e77, H⟩ := zrj_e H
          refine zA_lal rfl rfl e72 c73 c74 e75 e77 ?_
          refine zA_ld rfl rfl rfl ?_
          refine zA_st (st' := [zJ (x64.toInt64), zJ v76]) rfl rfl rfl rfl ?_
          refine zA_st (st' := [zI (lg_cmp v76 (x64.toInt64))]) rfl rfl rfl rfl ?_
          rcases zite_e H with ⟨c78, H⟩ | ⟨c78, H⟩
          · refine zA_brT (c := (lg_cmp v76 (x64.toInt64)) = 0) rfl rfl rfl c78 ?_
            refine zA_tr (L := [some (zrv x0), some (zrv x1), some (zrv x2), some (zrv x3), some (zrv x4), some (zI x5), none, none, none]) rfl rfl ?_
            refine zA_go rfl rfl ?_
            exact zA_tr (L := [some (zrv x0), some (zrv x1), some (zrv x2), some (zrv x3), some (zrv x4), some (zI x5), none, none, none]) rfl rfl (zmS291_2349 hk16 _ _ _ _ _ _ _ _ _ H)
          · refine zA_brF (c := (lg_cmp v76 (x64.toInt64)) = 0) rfl rfl rfl c78 ?_
            refine zA_push rfl rfl zkk7 ?_
            cases H
            exact zA_ret rfl (zret_Z (by decide))
        · refine zA_brT' (c := x40 = 0) rfl rfl rfl c68 ?_
          refine zA_tr (L := [some (zrv x0), some (zrv x1), some (zrv x2), some (zrv x3), some (zrv x4), some (zI x5), none, none, none]) rfl rfl ?_
          refine zA_go rfl rfl ?_
          exact zA_tr (L := [some (zrv x0), some (zrv x1), some (zrv x2), some (zrv x3), some (zrv x4), some (zI x5), none, none, none]) rfl rfl (zmS291_2349 hk16 _ _ _ _ _ _ _ _ _ H)
      · refine zA_brF (c := x66 = x40) rfl rfl rfl c67 ?_
        refine zA_push rfl rfl zkk7 ?_
        cases H
        exact zA_ret rfl (zret_Z (by decide))
    · cases H
      exact zA_callX (as := [zrv x2]) (st' := []) rfl rfl (zrcv_Q e61 c62) rfl (zmE137 _) rfl rfl rfl (zmS137 C)
  · cases H
    exact zA_callX (as := [zrv x2, zI v48, zI v57]) (st' := []) rfl rfl (zrcv_Q e61 c62) rfl (zmE217 _ _ _) rfl rfl rfl (zmS217 C)
def zm291_1401 (k16 : zq → zq → zq → zq → zq → Int32 → zH → zRs Int32) (x0 : zq) (x1 : zq) (x2 : zq) (x3 : zq) (x4 : zq) (x5 : Int32) (h : zH) : zRs Int32 :=
  zri x0 (x5 + (1 : Int32)) h fun v28 =>
  zri x0 (x5 + (2 : Int32)) h fun v37 =>
  zb2 (zm271 x1 v28 v37 x3 h) fun x40 h39 =>
  zri x0 (x5 + (1 : Int32)) h39 fun v48 =>
  zri x0 (x5 + (2 : Int32)) h39 fun v57 =>
  zob 12 x2 fun p59 i60 =>
  zb (zm216 x2 v48 v57 h39) fun x64 h63 =>
  zb (zm137 x2 h63) fun x66 h65 =>
  if x66 = x40 then
    if x40 = 0 then
      zrj x3 (0 : Int32) h65 fun v76 =>
      if (lg_cmp v76 (x64.toInt64)) = 0 then
        zm291_2349 k16 x0 x1 x2 x3 x4 x5 h65
      else
        some (.inl (0 : Int32), h65)
    else
      zm291_2349 k16 x0 x1 x2 x3 x4 x5 h65
  else
    some (.inl (0 : Int32), h65)
theorem zmS291_1401 {k16 : zq → zq → zq → zq → zq → Int32 → zH → zRs Int32} (hk16 : ∀ (x0 : zq) (x1 : zq) (x2 : zq) (x3 : zq) (x4 : zq) (x5 : Int32) (h : zH) (r : Int32 ⊕ Nat) (h' : zH), k16 x0 x1 x2 x3 x4 x5 h = some (r, h') → zAt 291 16 [some (zrv x0), some (zrv x1), some (zrv x2), some (zrv x3), some (zrv x4), some (zI x5), none, none, none] [] h (zoI r) h') : ∀ (x0 : zq) (x1 : zq) (x2 : zq) (x3 : zq) (x4 : zq) (x5 : Int32) (h : zH) (r : Int32 ⊕ Nat) (h' : zH), zm291_1401 k16 x0 x1 x2 x3 x4 x5 h = some (r, h') → zAt 291 1401 [some (zrv x0), some (zrv x1), some (zrv x2), some (zrv x3), some (zrv x4), some (zI x5), none, none, none] [] h (zoI r) h' := by
  intro x0 x1 x2 x3 x4 x5 h r h' H
  unfold zm291_1401 at H
  refine zA_aldn rfl rfl rfl ?_
  refine zA_aldn rfl rfl rfl ?_
  refine zA_ld rfl rfl rfl ?_
  refine zA_push rfl rfl zkk5 ?_
  refine zA_st (st' := [zI (x5 + (1 : Int32)), zrv x0, zrv x1]) rfl rfl rfl rfl ?_
  obtain ⟨p21, i22, j23, v28, e24, c25, c26, e27, e29, H⟩ := zri_e H
  refine zA_ial rfl rfl e24 c25 c26 e27 e29 ?_
  refine zA_aldn rfl rfl rfl ?_
  refine zA_ld rfl rfl rfl ?_
  refine zA_push rfl rfl zkk23 ?_
  refine zA_st (st' := [zI (x5 + (2 : Int32)), zrv x0, zI v28, zrv x1]) rfl rfl rfl rfl ?_
  obtain ⟨p30, i31, j32, v37, e33, c34, c35, e36, e38, H⟩ := zri_e H
  refine zA_ial rfl rfl e33 c34 c35 e36 e38 ?_
  refine zA_aldn rfl rfl rfl ?_
  obtain ⟨x40, h39, C, H⟩ := zb2_e H
  refine zA_callV (as := [zrv x1, zI v28, zI v37, zrv x3]) (st' := []) rfl rfl rfl rfl rfl (zmE271 _ _ _ _) rfl (zmS271 C) ?_
  refine zA_ist2 rfl rfl rfl (zset1 (L' := [some (zrv x0), some (zrv x1), some (zrv x2), some (zrv x3), some (zrv x4), some (zI x5), some (zI x40), none, none]) rfl rfl (zpcV rfl rfl)) ?_
  refine zA_aldn rfl rfl rfl ?_
  refine zA_aldn rfl rfl rfl ?_
  refine zA_ld rfl rfl rfl ?_
  refine zA_push rfl rfl zkk5 ?_
  refine zA_st (st' := [zI (x5 + (1 : Int32)), zrv x0, zrv x2]) rfl rfl rfl rfl ?_
  obtain ⟨p41, i42, j43, v48, e44, c45, c46, e47, e49, H⟩ := zri_e H
  refine zA_ial rfl rfl e44 c45 c46 e47 e49 ?_
  refine zA_aldn rfl rfl rfl ?_
  refine zA_ld rfl rfl rfl ?_
  refine zA_push rfl rfl zkk23 ?_
  refine zA_st (st' := [zI (x5 + (2 : Int32)), zrv x0, zI v48, zrv x2]) rfl rfl rfl rfl ?_
  obtain ⟨p50, i51, j52, v57, e53, c54, c55, e56, e58, H⟩ := zri_e H
  refine zA_ial rfl rfl e53 c54 c55 e56 e58 ?_
  obtain ⟨p59, i60, e61, c62, H⟩ := zob_e H
  rcases zb_e H with ⟨x64, h63, C, H⟩ | ⟨E, h63, C, H⟩
  · refine zA_callV (as := [zrv x2, zI v48, zI v57]) (st' := []) rfl rfl rfl (zrcv_Q e61 c62) rfl (zmE216 _ _ _) rfl (zmS216 C) ?_
    refine zA_ist2 rfl rfl rfl (zset1 (L' := [some (zrv x0), some (zrv x1), some (zrv x2), some (zrv x3), some (zrv x4), some (zI x5), some (zI x40), some (zI x64), none]) rfl rfl (zpcV rfl rfl)) ?_
    refine zA_aldn rfl rfl rfl ?_
    rcases zb_e H with ⟨x66, h65, C, H⟩ | ⟨E, h65, C, H⟩
    · refine zA_callV (as := [zrv x2]) (st' := []) rfl rfl rfl (zrcv_Q e61 c62) rfl (zmE137 _) rfl (zmS137 C) ?_
      refine zA_ld rfl rfl rfl ?_
      rcases zite_e H with ⟨c67, H⟩ | ⟨c67, H⟩
      · refine zA_brT (c := x66 = x40) rfl rfl rfl c67 ?_
        refine zA_ld rfl rfl rfl ?_
        rcases zite_e H with ⟨c68, H⟩ | ⟨c68, H⟩
        · refine zA_brF' (c := x40 = 0) rfl rfl rfl c68 ?_
          refine zA_aldn rfl rfl rfl ?_
          refine zA_push rfl rfl zkk7 ?_
          obtain ⟨p69, i70, j71, v76, e72, c73, c74, e75, e77, H⟩ := zrj_e H
          refine zA_lal rfl rfl e72 c73 c74 e75 e77 ?_
          refine zA_ld rfl rfl rfl ?_
          refine zA_st (st' := [zJ (x64.toInt64), zJ v76]) rfl rfl rfl rfl ?_
          refine zA_st (st' := [zI (lg_cmp v76 (x64.toInt64))]) rfl rfl rfl rfl ?_
          rcases zite_e H with ⟨c78, H⟩ | ⟨c78, H⟩
          · refine zA_brT (c := (lg_cmp v76 (x64.toInt64)) = 0) rfl rfl rfl c78 ?_
            refine zA_tr (L := [some (zrv x0), some (zrv x1), some (zrv x2), some (zrv x3), some (zrv x4), some (zI x5), none, none, none]) rfl rfl ?_
            refine zA_go rfl rfl ?_
            exact zA_tr (L := [some (zrv x0), some (zrv x1), some (zrv x2), some (zrv x3), some (zrv x4), some (zI x5), none, none, none]) rfl rfl (zmS291_2349 hk16 _ _ _ _ _ _ _ _ _ H)
          · refine zA_brF (c := (lg_cmp v76 (x64.toInt64)) = 0) rfl rfl rfl c78 ?_
            refine zA_push rfl rfl zkk7 ?_
            cases H
            exact zA_ret rfl (zret_Z (by decide))
        · refine zA_brT' (c := x40 = 0) rfl rfl rfl c68 ?_
          refine zA_tr (L := [some (zrv x0), some (zrv x1), some (zrv x2), some (zrv x3), some (zrv x4), some (zI x5), none, none, none]) rfl rfl ?_
          refine zA_go rfl rfl ?_
          exact zA_tr (L := [some (zrv x0), some (zrv x1), some (zrv x2), some (zrv x3), some (zrv x4), some (zI x5), none, none, none]) rfl rfl (zmS291_2349 hk16 _ _ _ _ _ _ _ _ _ H)
      · refine zA_brF (c := x66 = x40) rfl rfl rfl c67 ?_
        refine zA_push rfl rfl zkk7 ?_
        cases H
        exact zA_ret rfl (zret_Z (by decide))
    · cases H
      exact zA_callX (as := [zrv x2]) (st' := []) rfl rfl (zrcv_Q e61 c62) rfl (zmE137 _) rfl rfl rfl (zmS137 C)
  · cases H
    exact zA_callX (as := [zrv x2, zI v48, zI v57]) (st' := []) rfl rfl (zrcv_Q e61 c62) rfl (zmE216 _ _ _) rfl rfl rfl (zmS216 C)
def zm291_1345 (k16 : zq → zq → zq → zq → zq → Int32 → zH → zRs Int32) (x0 : zq) (x1 : zq) (x2 : zq) (x3 : zq) (x4 : zq) (x5 : Int32) (h : zH) : zRs Int32 :=
  zri x0 (x5 + (1 : Int32)) h fun v28 =>
  zri x0 (x5 + (2 : Int32)) h fun v37 =>
  zb2 (zm270 x1 v28 v37 x4 h) fun x40 h39 =>
  zri x0 (x5 + (1 : Int32)) h39 fun v48 =>
  zri x0 (x5 + (2 : Int32)) h39 fun v57 =>
  zob 12 x2 fun p59 i60 =>
  zb (zm215 x2 v48 v57 h39) fun x64 h63 =>
  zb (zm137 x2 h63) fun x66 h65 =>
  if x66 = x40 then
    if x40 = 0 then
      zrd x4 (0 : Int32) h65 fun v76 =>
      if (Op.cmpValue (FP.dcmp v76 x64) .l) = 0 then
        zm291_2349 k16 x0 x1 x2 x3 x4 x5 h65
      else
        zrd x4 (0 : Int32) h65 fun v86 =>
        zrd x4 (0 : Int32) h65 fun v95 =>
        if (Op.cmpValue (FP.dcmp v86 v95) .l) = 0 then
          some (.inl (0 : Int32), h65)
        else
          if (Op.cmpValue (FP.dcmp x64 x64) .l) = 0 then
            some (.inl (0 : Int32), h65)
          else
            zm291_2349 k16 x0 x1 x2 x3 x4 x5 h65
    else
      zm291_2349 k16 x0 x1 x2 x3 x4 x5 h65
  else
    some (.inl (0 : Int32), h65)
theorem zmS291_1345 {k16 : zq → zq → zq → zq → zq → Int32 → zH → zRs Int32} (hk16 : ∀ (x0 : zq) (x1 : zq) (x2 : zq) (x3 : zq) (x4 : zq) (x5 : Int32) (h : zH) (r : Int32 ⊕ Nat) (h' : zH), k16 x0 x1 x2 x3 x4 x5 h = some (r, h') → zAt 291 16 [some (zrv x0), some (zrv x1), some (zrv x2), some (zrv x3), some (zrv x4), some (zI x5), none, none, none] [] h (zoI r) h') : ∀ (x0 : zq) (x1 : zq) (x2 : zq) (x3 : zq) (x4 : zq) (x5 : Int32) (h : zH) (r : Int32 ⊕ Nat) (h' : zH), zm291_1345 k16 x0 x1 x2 x3 x4 x5 h = some (r, h') → zAt 291 1345 [some (zrv x0), some (zrv x1), some (zrv x2), some (zrv x3), some (zrv x4), some (zI x5), none, none, none] [] h (zoI r) h' := by
  intro x0 x1 x2 x3 x4 x5 h r h' H
  unfold zm291_1345 at H
  refine zA_aldn rfl rfl rfl ?_
  refine zA_aldn rfl rfl rfl ?_
  refine zA_ld rfl rfl rfl ?_
  refine zA_push rfl rfl zkk5 ?_
  refine zA_st (st' := [zI (x5 + (1 : Int32)), zrv x0, zrv x1]) rfl rfl rfl rfl ?_
  obtain ⟨p21, i22, j23, v28, e24, c25, c26, e27, e29, H⟩ := zri_e H
  refine zA_ial rfl rfl e24 c25 c26 e27 e29 ?_
  refine zA_aldn rfl rfl rfl ?_
  refine zA_ld rfl rfl rfl ?_
  refine zA_push rfl rfl zkk23 ?_
  refine zA_st (st' := [zI (x5 + (2 : Int32)), zrv x0, zI v28, zrv x1]) rfl rfl rfl rfl ?_
  obtain ⟨p30, i31, j32, v37, e33, c34, c35, e36, e38, H⟩ := zri_e H
  refine zA_ial rfl rfl e33 c34 c35 e36 e38 ?_
  refine zA_ald rfl rfl rfl ?_
  obtain ⟨x40, h39, C, H⟩ := zb2_e H
  refine zA_callV (as := [zrv x1, zI v28, zI v37, zrv x4]) (st' := []) rfl rfl rfl rfl rfl (zmE270 _ _ _ _) rfl (zmS270 C) ?_
  refine zA_ist2 rfl rfl rfl (zset1 (L' := [some (zrv x0), some (zrv x1), some (zrv x2), some (zrv x3), some (zrv x4), some (zI x5), some (zI x40), none, none]) rfl rfl (zpcV rfl rfl)) ?_
  refine zA_aldn rfl rfl rfl ?_
  refine zA_aldn rfl rfl rfl ?_
  refine zA_ld rfl rfl rfl ?_
  refine zA_push rfl rfl zkk5 ?_
  refine zA_st (st' := [zI (x5 + (1 : Int32)), zrv x0, zrv x2]) rfl rfl rfl rfl ?_
  obtain ⟨p41, i42, j43, v48, e44, c45, c46, e47, e49, H⟩ := zri_e H
  refine zA_ial rfl rfl e44 c45 c46 e47 e49 ?_
  refine zA_aldn rfl rfl rfl ?_
  refine zA_ld rfl rfl rfl ?_
  refine zA_push rfl rfl zkk23 ?_
  refine zA_st (st' := [zI (x5 + (2 : Int32)), zrv x0, zI v48, zrv x2]) rfl rfl rfl rfl ?_
  obtain ⟨p50, i51, j52, v57, e53, c54, c55, e56, e58, H⟩ := zri_e H
  refine zA_ial rfl rfl e53 c54 c55 e56 e58 ?_
  obtain ⟨p59, i60, e61, c62, H⟩ := zob_e H
  rcases zb_e H with ⟨x64, h63, C, H⟩ | ⟨E, h63, C, H⟩
  · refine zA_callV (as := [zrv x2, zI v48, zI v57]) (st' := []) rfl rfl rfl (zrcv_Q e61 c62) rfl (zmE215 _ _ _) rfl (zmS215 C) ?_
    refine zA_dst2 rfl rfl rfl (zset2 (L' := [some (zrv x0), some (zrv x1), some (zrv x2), some (zrv x3), some (zrv x4), some (zI x5), some (zI x40), some (zD x64), none]) rfl rfl (zpcV rfl rfl) rfl) ?_
    refine zA_aldn rfl rfl rfl ?_
    rcases zb_e H with ⟨x66, h65, C, H⟩ | ⟨E, h65, C, H⟩
    · refine zA_callV (as := [zrv x2]) (st' := []) rfl rfl rfl (zrcv_Q e61 c62) rfl (zmE137 _) rfl (zmS137 C) ?_
      refine zA_ld rfl rfl rfl ?_
      rcases zite_e H with ⟨c67, H⟩ | ⟨c67, H⟩
      · refine zA_brT (c := x66 = x40) rfl rfl rfl c67 ?_
        refine zA_ld rfl rfl rfl ?_
        rcases zite_e H with ⟨c68, H⟩ | ⟨c68, H⟩
        · refine zA_brF' (c := x40 = 0) rfl rfl rfl c68 ?_
          refine zA_ald rfl rfl rfl ?_
          refine zA_push rfl rfl zkk7 ?_
          obtain ⟨p69, i70, j71, v76, e72, c73, c74, e75, e77, H⟩ := zrd_e H
          refine zA_dal rfl rfl e72 c73 c74 e75 e77 ?_
          refine zA_dld rfl rfl rfl ?_
          refine zA_st (st' := [zI (Op.cmpValue (FP.dcmp v76 x64) .l)]) rfl rfl rfl rfl ?_
          rcases zite_e H with ⟨c78, H⟩ | ⟨c78, H⟩
          · refine zA_brT (c := (Op.cmpValue (FP.dcmp v76 x64) .l) = 0) rfl rfl rfl c78 ?_
            refine zA_tr (L := [some (zrv x0), some (zrv x1), some (zrv x2), some (zrv x3), some (zrv x4), some (zI x5), none, none, none]) rfl rfl ?_
            refine zA_go rfl rfl ?_
            exact zA_tr (L := [some (zrv x0), some (zrv x1), some (zrv x2), some (zrv x3), some (zrv x4), some (zI x5), none, none, none]) rfl rfl (zmS291_2349 hk16 _ _ _ _ _ _ _ _ _ H)
          · refine zA_brF (c := (Op.cmpValue (FP.dcmp v76 x64) .l) = 0) rfl rfl rfl c78 ?_
            refine zA_ald rfl rfl rfl ?_
            refine zA_push rfl rfl zkk7 ?_
            obtain ⟨p79, i80, j81, v86, e82, c83, c84, e85, e87, H⟩ := zrd_e H
            refine zA_dal rfl rfl e82 c83 c84 e85 e87 ?_
            refine zA_ald rfl rfl rfl ?_
            refine zA_push rfl rfl zkk7 ?_
            obtain ⟨p88, i89, j90, v95, e91, c92, c93, e94, e96, H⟩ := zrd_e H
            refine zA_dal rfl rfl e91 c92 c93 e94 e96 ?_
            refine zA_st (st' := [zI (Op.cmpValue (FP.dcmp v86 v95) .l)]) rfl rfl rfl rfl ?_
            rcases zite_e H with ⟨c97, H⟩ | ⟨c97, H⟩
            · refine zA_brT (c := (Op.cmpValue (FP.dcmp v86 v95) .l) = 0) rfl rfl rfl c97 ?_
              refine zA_tr (L := [none, none, none, none, none, none, none, none, none]) rfl rfl ?_
              refine zA_push rfl rfl zkk7 ?_
              cases H
              exact zA_ret rfl (zret_Z (by decide))
            · refine zA_brF (c := (Op.cmpValue (FP.dcmp v86 v95) .l) = 0) rfl rfl rfl c97 ?_
              refine zA_dld rfl rfl rfl ?_
              refine zA_dld rfl rfl rfl ?_
              refine zA_st (st' := [zI (Op.cmpValue (FP.dcmp x64 x64) .l)]) rfl rfl rfl rfl ?_
              rcases zite_e H with ⟨c98, H⟩ | ⟨c98, H⟩
              · refine zA_brF' (c := (Op.cmpValue (FP.dcmp x64 x64) .l) = 0) rfl rfl rfl c98 ?_
                refine zA_tr (L := [none, none, none, none, none, none, none, none, none]) rfl rfl ?_
                refine zA_push rfl rfl zkk7 ?_
                cases H
                exact zA_ret rfl (zret_Z (by decide))
              · refine zA_brT' (c := (Op.cmpValue (FP.dcmp x64 x64) .l) = 0) rfl rfl rfl c98 ?_
                refine zA_tr (L := [some (zrv x0), some (zrv x1), some (zrv x2), some (zrv x3), some (zrv x4), some (zI x5), none, none, none]) rfl rfl ?_
                refine zA_go rfl rfl ?_
                exact zA_tr (L := [some (zrv x0), some (zrv x1), some (zrv x2), some (zrv x3), some (zrv x4), some (zI x5), none, none, none]) rfl rfl (zmS291_2349 hk16 _ _ _ _ _ _ _ _ _ H)
        · refine zA_brT' (c := x40 = 0) rfl rfl rfl c68 ?_
          refine zA_tr (L := [some (zrv x0), some (zrv x1), some (zrv x2), some (zrv x3), some (zrv x4), some (zI x5), none, none, none]) rfl rfl ?_
          refine zA_go rfl rfl ?_
          exact zA_tr (L := [some (zrv x0), some (zrv x1), some (zrv x2), some (zrv x3), some (zrv x4), some (zI x5), none, none, none]) rfl rfl (zmS291_2349 hk16 _ _ _ _ _ _ _ _ _ H)
      · refine zA_brF (c := x66 = x40) rfl rfl rfl c67 ?_
        refine zA_push rfl rfl zkk7 ?_
        cases H
        exact zA_ret rfl (zret_Z (by decide))
    · cases H
      exact zA_callX (as := [zrv x2]) (st' := []) rfl rfl (zrcv_Q e61 c62) rfl (zmE137 _) rfl rfl rfl (zmS137 C)
  · cases H
    exact zA_callX (as := [zrv x2, zI v48, zI v57]) (st' := []) rfl rfl (zrcv_Q e61 c62) rfl (zmE215 _ _ _) rfl rfl rfl (zmS215 C)
def zm291_1320 (k16 : zq → zq → zq → zq → zq → Int32 → zH → zRs Int32) (x0 : zq) (x1 : zq) (x2 : zq) (x3 : zq) (x4 : zq) (x5 : Int32) (x6 : Int32) (s0 : zq) (s1 : Int32) (s2 : Int32) (s3 : Int32) (s4 : Int32) (h : zH) : zRs Int32 :=
  zri x0 (x5 + (5 : Int32)) h fun v28 =>
  zob 12 s0 fun p30 i31 =>
  zb (zm209 s0 s1 s2 s3 s4 v28 h) fun x35 h34 =>
  zob 12 x2 fun p36 i37 =>
  zb (zm137 x2 h34) fun x41 h40 =>
  if x41 = x6 then
    if x6 = 0 then
      zrj x3 (0 : Int32) h40 fun v51 =>
      if (lg_cmp v51 (x35.toInt64)) = 0 then
        zm291_2349 k16 x0 x1 x2 x3 x4 x5 h40
      else
        some (.inl (0 : Int32), h40)
    else
      zm291_2349 k16 x0 x1 x2 x3 x4 x5 h40
  else
    some (.inl (0 : Int32), h40)
theorem zmS291_1320 {k16 : zq → zq → zq → zq → zq → Int32 → zH → zRs Int32} (hk16 : ∀ (x0 : zq) (x1 : zq) (x2 : zq) (x3 : zq) (x4 : zq) (x5 : Int32) (h : zH) (r : Int32 ⊕ Nat) (h' : zH), k16 x0 x1 x2 x3 x4 x5 h = some (r, h') → zAt 291 16 [some (zrv x0), some (zrv x1), some (zrv x2), some (zrv x3), some (zrv x4), some (zI x5), none, none, none] [] h (zoI r) h') : ∀ (x0 : zq) (x1 : zq) (x2 : zq) (x3 : zq) (x4 : zq) (x5 : Int32) (x6 : Int32) (s0 : zq) (s1 : Int32) (s2 : Int32) (s3 : Int32) (s4 : Int32) (h : zH) (r : Int32 ⊕ Nat) (h' : zH), zm291_1320 k16 x0 x1 x2 x3 x4 x5 x6 s0 s1 s2 s3 s4 h = some (r, h') → zAt 291 1320 [some (zrv x0), some (zrv x1), some (zrv x2), some (zrv x3), some (zrv x4), some (zI x5), some (zI x6), none, none] [zI s4, zI s3, zI s2, zI s1, zrv s0] h (zoI r) h' := by
  intro x0 x1 x2 x3 x4 x5 x6 s0 s1 s2 s3 s4 h r h' H
  unfold zm291_1320 at H
  refine zA_aldn rfl rfl rfl ?_
  refine zA_ld rfl rfl rfl ?_
  refine zA_push rfl rfl zkk20 ?_
  refine zA_st (st' := [zI (x5 + (5 : Int32)), zrv x0, zI s4, zI s3, zI s2, zI s1, zrv s0]) rfl rfl rfl rfl ?_
  obtain ⟨p21, i22, j23, v28, e24, c25, c26, e27, e29, H⟩ := zri_e H
  refine zA_ial rfl rfl e24 c25 c26 e27 e29 ?_
  obtain ⟨p30, i31, e32, c33, H⟩ := zob_e H
  rcases zb_e H with ⟨x35, h34, C, H⟩ | ⟨E, h34, C, H⟩
  · refine zA_callV (as := [zrv s0, zI s1, zI s2, zI s3, zI s4, zI v28]) (st' := []) rfl rfl rfl (zrcv_Q e32 c33) rfl (zmE209 _ _ _ _ _ _) rfl (zmS209 C) ?_
    refine zA_ist2 rfl rfl rfl (zset1 (L' := [some (zrv x0), some (zrv x1), some (zrv x2), some (zrv x3), some (zrv x4), some (zI x5), some (zI x6), some (zI x35), none]) rfl rfl (zpcV rfl rfl)) ?_
    refine zA_aldn rfl rfl rfl ?_
    obtain ⟨p36, i37, e38, c39, H⟩ := zob_e H
    rcases zb_e H with ⟨x41, h40, C, H⟩ | ⟨E, h40, C, H⟩
    · refine zA_callV (as := [zrv x2]) (st' := []) rfl rfl rfl (zrcv_Q e38 c39) rfl (zmE137 _) rfl (zmS137 C) ?_
      refine zA_ld rfl rfl rfl ?_
      rcases zite_e H with ⟨c42, H⟩ | ⟨c42, H⟩
      · refine zA_brT (c := x41 = x6) rfl rfl rfl c42 ?_
        refine zA_ld rfl rfl rfl ?_
        rcases zite_e H with ⟨c43, H⟩ | ⟨c43, H⟩
        · refine zA_brF' (c := x6 = 0) rfl rfl rfl c43 ?_
          refine zA_aldn rfl rfl rfl ?_
          refine zA_push rfl rfl zkk7 ?_
          obtain ⟨p44, i45, j46, v51, e47, c48, c49, e50, e52, H⟩ := zrj_e H
          refine zA_lal rfl rfl e47 c48 c49 e50 e52 ?_
          refine zA_ld rfl rfl rfl ?_
          refine zA_st (st' := [zJ (x35.toInt64), zJ v51]) rfl rfl rfl rfl ?_
          refine zA_st (st' := [zI (lg_cmp v51 (x35.toInt64))]) rfl rfl rfl rfl ?_
          rcases zite_e H with ⟨c53, H⟩ | ⟨c53, H⟩
          · refine zA_brT (c := (lg_cmp v51 (x35.toInt64)) = 0) rfl rfl rfl c53 ?_
            refine zA_tr (L := [some (zrv x0), some (zrv x1), some (zrv x2), some (zrv x3), some (zrv x4), some (zI x5), none, none, none]) rfl rfl ?_
            refine zA_go rfl rfl ?_
            exact zA_tr (L := [some (zrv x0), some (zrv x1), some (zrv x2), some (zrv x3), some (zrv x4), some (zI x5), none, none, none]) rfl rfl (zmS291_2349 hk16 _ _ _ _ _ _ _ _ _ H)
          · refine zA_brF (c := (lg_cmp v51 (x35.toInt64)) = 0) rfl rfl rfl c53 ?_
            refine zA_push rfl rfl zkk7 ?_
            cases H
            exact zA_ret rfl (zret_Z (by decide))
        · refine zA_brT' (c := x6 = 0) rfl rfl rfl c43 ?_
          refine zA_tr (L := [some (zrv x0), some (zrv x1), some (zrv x2), some (zrv x3), some (zrv x4), some (zI x5), none, none, none]) rfl rfl ?_
          refine zA_go rfl rfl ?_
          exact zA_tr (L := [some (zrv x0), some (zrv x1), some (zrv x2), some (zrv x3), some (zrv x4), some (zI x5), none, none, none]) rfl rfl (zmS291_2349 hk16 _ _ _ _ _ _ _ _ _ H)
      · refine zA_brF (c := x41 = x6) rfl rfl rfl c42 ?_
        refine zA_push rfl rfl zkk7 ?_
        cases H
        exact zA_ret rfl (zret_Z (by decide))
    · cases H
      exact zA_callX (as := [zrv x2]) (st' := []) rfl rfl (zrcv_Q e38 c39) rfl (zmE137 _) rfl rfl rfl (zmS137 C)
  · cases H
    exact zA_callX (as := [zrv s0, zI s1, zI s2, zI s3, zI s4, zI v28]) (st' := []) rfl rfl (zrcv_Q e32 c33) rfl (zmE209 _ _ _ _ _ _) rfl rfl rfl (zmS209 C)
def zm291_1311 (k16 : zq → zq → zq → zq → zq → Int32 → zH → zRs Int32) (x0 : zq) (x1 : zq) (x2 : zq) (x3 : zq) (x4 : zq) (x5 : Int32) (x6 : Int32) (s0 : zq) (s1 : Int32) (s2 : Int32) (s3 : Int32) (h : zH) : zRs Int32 :=
  zri x0 (x5 + (4 : Int32)) h fun v28 =>
  if v28 = 0 then
    zm291_1320 k16 x0 x1 x2 x3 x4 x5 x6 s0 s1 s2 s3 (0 : Int32) h
  else
    zm291_1320 k16 x0 x1 x2 x3 x4 x5 x6 s0 s1 s2 s3 (1 : Int32) h
theorem zmS291_1311 {k16 : zq → zq → zq → zq → zq → Int32 → zH → zRs Int32} (hk16 : ∀ (x0 : zq) (x1 : zq) (x2 : zq) (x3 : zq) (x4 : zq) (x5 : Int32) (h : zH) (r : Int32 ⊕ Nat) (h' : zH), k16 x0 x1 x2 x3 x4 x5 h = some (r, h') → zAt 291 16 [some (zrv x0), some (zrv x1), some (zrv x2), some (zrv x3), some (zrv x4), some (zI x5), none, none, none] [] h (zoI r) h') : ∀ (x0 : zq) (x1 : zq) (x2 : zq) (x3 : zq) (x4 : zq) (x5 : Int32) (x6 : Int32) (s0 : zq) (s1 : Int32) (s2 : Int32) (s3 : Int32) (h : zH) (r : Int32 ⊕ Nat) (h' : zH), zm291_1311 k16 x0 x1 x2 x3 x4 x5 x6 s0 s1 s2 s3 h = some (r, h') → zAt 291 1311 [some (zrv x0), some (zrv x1), some (zrv x2), some (zrv x3), some (zrv x4), some (zI x5), some (zI x6), none, none] [zI s3, zI s2, zI s1, zrv s0] h (zoI r) h' := by
  intro x0 x1 x2 x3 x4 x5 x6 s0 s1 s2 s3 h r h' H
  unfold zm291_1311 at H
  refine zA_aldn rfl rfl rfl ?_
  refine zA_ld rfl rfl rfl ?_
  refine zA_push rfl rfl zkk9 ?_
  refine zA_st (st' := [zI (x5 + (4 : Int32)), zrv x0, zI s3, zI s2, zI s1, zrv s0]) rfl rfl rfl rfl ?_
  obtain ⟨p21, i22, j23, v28, e24, c25, c26, e27, e29, H⟩ := zri_e H
  refine zA_ial rfl rfl e24 c25 c26 e27 e29 ?_
  rcases zite_e H with ⟨c30, H⟩ | ⟨c30, H⟩
  · refine zA_brT (c := v28 = 0) rfl rfl rfl c30 ?_
    refine zA_push rfl rfl zkk7 ?_
    exact zA_tr (L := [some (zrv x0), some (zrv x1), some (zrv x2), some (zrv x3), some (zrv x4), some (zI x5), some (zI x6), none, none]) rfl rfl (zmS291_1320 hk16 _ _ _ _ _ _ _ _ _ _ _ _ _ _ _ H)
  · refine zA_brF (c := v28 = 0) rfl rfl rfl c30 ?_
    refine zA_push rfl rfl zkk5 ?_
    refine zA_go rfl rfl ?_
    exact zA_tr (L := [some (zrv x0), some (zrv x1), some (zrv x2), some (zrv x3), some (zrv x4), some (zI x5), some (zI x6), none, none]) rfl rfl (zmS291_1320 hk16 _ _ _ _ _ _ _ _ _ _ _ _ _ _ _ H)
def zm291_1283 (k16 : zq → zq → zq → zq → zq → Int32 → zH → zRs Int32) (x0 : zq) (x1 : zq) (x2 : zq) (x3 : zq) (x4 : zq) (x5 : Int32) (s0 : zq) (s1 : Int32) (s2 : Int32) (s3 : Int32) (s4 : Int32) (h : zH) : zRs Int32 :=
  zri x0 (x5 + (5 : Int32)) h fun v28 =>
  zb2 (zm269 s0 s1 s2 s3 s4 v28 x3 h) fun x31 h30 =>
  zri x0 (x5 + (1 : Int32)) h30 fun v39 =>
  zri x0 (x5 + (2 : Int32)) h30 fun v48 =>
  zri x0 (x5 + (3 : Int32)) h30 fun v57 =>
  if v57 = 0 then
    zm291_1311 k16 x0 x1 x2 x3 x4 x5 x31 x2 v39 v48 (0 : Int32) h30
  else
    zm291_1311 k16 x0 x1 x2 x3 x4 x5 x31 x2 v39 v48 (1 : Int32) h30
theorem zmS291_1283 {k16 : zq → zq → zq → zq → zq → Int32 → zH → zRs Int32} (hk16 : ∀ (x0 : zq) (x1 : zq) (x2 : zq) (x3 : zq) (x4 : zq) (x5 : Int32) (h : zH) (r : Int32 ⊕ Nat) (h' : zH), k16 x0 x1 x2 x3 x4 x5 h = some (r, h') → zAt 291 16 [some (zrv x0), some (zrv x1), some (zrv x2), some (zrv x3), some (zrv x4), some (zI x5), none, none, none] [] h (zoI r) h') : ∀ (x0 : zq) (x1 : zq) (x2 : zq) (x3 : zq) (x4 : zq) (x5 : Int32) (s0 : zq) (s1 : Int32) (s2 : Int32) (s3 : Int32) (s4 : Int32) (h : zH) (r : Int32 ⊕ Nat) (h' : zH), zm291_1283 k16 x0 x1 x2 x3 x4 x5 s0 s1 s2 s3 s4 h = some (r, h') → zAt 291 1283 [some (zrv x0), some (zrv x1), some (zrv x2), some (zrv x3), some (zrv x4), some (zI x5), none, none, none] [zI s4, zI s3, zI s2, zI s1, zrv s0] h (zoI r) h' := by
  intro x0 x1 x2 x3 x4 x5 s0 s1 s2 s3 s4 h r h' H
  unfold zm291_1283 at H
  refine zA_aldn rfl rfl rfl ?_
  refine zA_ld rfl rfl rfl ?_
  refine zA_push rfl rfl zkk20 ?_
  refine zA_st (st' := [zI (x5 + (5 : Int32)), zrv x0, zI s4, zI s3, zI s2, zI s1, zrv s0]) rfl rfl rfl rfl ?_
  obtain ⟨p21, i22, j23, v28, e24, c25, c26, e27, e29, H⟩ := zri_e H
  refine zA_ial rfl rfl e24 c25 c26 e27 e29 ?_
  refine zA_aldn rfl rfl rfl ?_
  obtain ⟨x31, h30, C, H⟩ := zb2_e H
  refine zA_callV (as := [zrv s0, zI s1, zI s2, zI s3, zI s4, zI v28, zrv x3]) (st' := []) rfl rfl rfl rfl rfl (zmE269 _ _ _ _ _ _ _) rfl (zmS269 C) ?_
  refine zA_ist2 rfl rfl rfl (zset1 (L' := [some (zrv x0), some (zrv x1), some (zrv x2), some (zrv x3), some (zrv x4), some (zI x5), some (zI x31), none, none]) rfl rfl (zpcV rfl rfl)) ?_
  refine zA_aldn rfl rfl rfl ?_
  refine zA_aldn rfl rfl rfl ?_
  refine zA_ld rfl rfl rfl ?_
  refine zA_push rfl rfl zkk5 ?_
  refine zA_st (st' := [zI (x5 + (1 : Int32)), zrv x0, zrv x2]) rfl rfl rfl rfl ?_
  obtain ⟨p32, i33, j34, v39, e35, c36, c37, e38, e40, H⟩ := zri_e H
  refine zA_ial rfl rfl e35 c36 c37 e38 e40 ?_
  refine zA_aldn rfl rfl rfl ?_
  refine zA_ld rfl rfl rfl ?_
  refine zA_push rfl rfl zkk23 ?_
  refine zA_st (st' := [zI (x5 + (2 : Int32)), zrv x0, zI v39, zrv x2]) rfl rfl rfl rfl ?_
  obtain ⟨p41, i42, j43, v48, e44, c45, c46, e47, e49, H⟩ := zri_e H
  refine zA_ial rfl rfl e44 c45 c46 e47 e49 ?_
  refine zA_aldn rfl rfl rfl ?_
  refine zA_ld rfl rfl rfl ?_
  refine zA_push rfl rfl zkk3 ?_
  refine zA_st (st' := [zI (x5 + (3 : Int32)), zrv x0, zI v48, zI v39, zrv x2]) rfl rfl rfl rfl ?_
  obtain ⟨p50, i51, j52, v57, e53, c54, c55, e56, e58, H⟩ := zri_e H
  refine zA_ial rfl rfl e53 c54 c55 e56 e58 ?_
  rcases zite_e H with ⟨c59, H⟩ | ⟨c59, H⟩
  · refine zA_brT (c := v57 = 0) rfl rfl rfl c59 ?_
    refine zA_push rfl rfl zkk7 ?_
    exact zA_tr (L := [some (zrv x0), some (zrv x1), some (zrv x2), some (zrv x3), some (zrv x4), some (zI x5), some (zI x31), none, none]) rfl rfl (zmS291_1311 hk16 _ _ _ _ _ _ _ _ _ _ _ _ _ _ H)
  · refine zA_brF (c := v57 = 0) rfl rfl rfl c59 ?_
    refine zA_push rfl rfl zkk5 ?_
    refine zA_go rfl rfl ?_
    exact zA_tr (L := [some (zrv x0), some (zrv x1), some (zrv x2), some (zrv x3), some (zrv x4), some (zI x5), some (zI x31), none, none]) rfl rfl (zmS291_1311 hk16 _ _ _ _ _ _ _ _ _ _ _ _ _ _ H)
def zm291_1274 (k16 : zq → zq → zq → zq → zq → Int32 → zH → zRs Int32) (x0 : zq) (x1 : zq) (x2 : zq) (x3 : zq) (x4 : zq) (x5 : Int32) (s0 : zq) (s1 : Int32) (s2 : Int32) (s3 : Int32) (h : zH) : zRs Int32 :=
  zri x0 (x5 + (4 : Int32)) h fun v28 =>
  if v28 = 0 then
    zm291_1283 k16 x0 x1 x2 x3 x4 x5 s0 s1 s2 s3 (0 : Int32) h
  else
    zm291_1283 k16 x0 x1 x2 x3 x4 x5 s0 s1 s2 s3 (1 : Int32) h
theorem zmS291_1274 {k16 : zq → zq → zq → zq → zq → Int32 → zH → zRs Int32} (hk16 : ∀ (x0 : zq) (x1 : zq) (x2 : zq) (x3 : zq) (x4 : zq) (x5 : Int32) (h : zH) (r : Int32 ⊕ Nat) (h' : zH), k16 x0 x1 x2 x3 x4 x5 h = some (r, h') → zAt 291 16 [some (zrv x0), some (zrv x1), some (zrv x2), some (zrv x3), some (zrv x4), some (zI x5), none, none, none] [] h (zoI r) h') : ∀ (x0 : zq) (x1 : zq) (x2 : zq) (x3 : zq) (x4 : zq) (x5 : Int32) (s0 : zq) (s1 : Int32) (s2 : Int32) (s3 : Int32) (h : zH) (r : Int32 ⊕ Nat) (h' : zH), zm291_1274 k16 x0 x1 x2 x3 x4 x5 s0 s1 s2 s3 h = some (r, h') → zAt 291 1274 [some (zrv x0), some (zrv x1), some (zrv x2), some (zrv x3), some (zrv x4), some (zI x5), none, none, none] [zI s3, zI s2, zI s1, zrv s0] h (zoI r) h' := by
  intro x0 x1 x2 x3 x4 x5 s0 s1 s2 s3 h r h' H
  unfold zm291_1274 at H
  refine zA_aldn rfl rfl rfl ?_
  refine zA_ld rfl rfl rfl ?_
  refine zA_push rfl rfl zkk9 ?_
  refine zA_st (st' := [zI (x5 + (4 : Int32)), zrv x0, zI s3, zI s2, zI s1, zrv s0]) rfl rfl rfl rfl ?_
  obtain ⟨p21, i22, j23, v28, e24, c25, c26, e27, e29, H⟩ := zri_e H
  refine zA_ial rfl rfl e24 c25 c26 e27 e29 ?_
  rcases zite_e H with ⟨c30, H⟩ | ⟨c30, H⟩
  · refine zA_brT (c := v28 = 0) rfl rfl rfl c30 ?_
    refine zA_push rfl rfl zkk7 ?_
    exact zA_tr (L := [some (zrv x0), some (zrv x1), some (zrv x2), some (zrv x3), some (zrv x4), some (zI x5), none, none, none]) rfl rfl (zmS291_1283 hk16 _ _ _ _ _ _ _ _ _ _ _ _ _ _ H)
  · refine zA_brF (c := v28 = 0) rfl rfl rfl c30 ?_
    refine zA_push rfl rfl zkk5 ?_
    refine zA_go rfl rfl ?_
    exact zA_tr (L := [some (zrv x0), some (zrv x1), some (zrv x2), some (zrv x3), some (zrv x4), some (zI x5), none, none, none]) rfl rfl (zmS291_1283 hk16 _ _ _ _ _ _ _ _ _ _ _ _ _ _ H)
def zm291_1254 (k16 : zq → zq → zq → zq → zq → Int32 → zH → zRs Int32) (x0 : zq) (x1 : zq) (x2 : zq) (x3 : zq) (x4 : zq) (x5 : Int32) (h : zH) : zRs Int32 :=
  zri x0 (x5 + (1 : Int32)) h fun v28 =>
  zri x0 (x5 + (2 : Int32)) h fun v37 =>
  zri x0 (x5 + (3 : Int32)) h fun v46 =>
  if v46 = 0 then
    zm291_1274 k16 x0 x1 x2 x3 x4 x5 x1 v28 v37 (0 : Int32) h
  else
    zm291_1274 k16 x0 x1 x2 x3 x4 x5 x1 v28 v37 (1 : Int32) h
theorem zmS291_1254 {k16 : zq → zq → zq → zq → zq → Int32 → zH → zRs Int32} (hk16 : ∀ (x0 : zq) (x1 : zq) (x2 : zq) (x3 : zq) (x4 : zq) (x5 : Int32) (h : zH) (r : Int32 ⊕ Nat) (h' : zH), k16 x0 x1 x2 x3 x4 x5 h = some (r, h') → zAt 291 16 [some (zrv x0), some (zrv x1), some (zrv x2), some (zrv x3), some (zrv x4), some (zI x5), none, none, none] [] h (zoI r) h') : ∀ (x0 : zq) (x1 : zq) (x2 : zq) (x3 : zq) (x4 : zq) (x5 : Int32) (h : zH) (r : Int32 ⊕ Nat) (h' : zH), zm291_1254 k16 x0 x1 x2 x3 x4 x5 h = some (r, h') → zAt 291 1254 [some (zrv x0), some (zrv x1), some (zrv x2), some (zrv x3), some (zrv x4), some (zI x5), none, none, none] [] h (zoI r) h' := by
  intro x0 x1 x2 x3 x4 x5 h r h' H
  unfold zm291_1254 at H
  refine zA_aldn rfl rfl rfl ?_
  refine zA_aldn rfl rfl rfl ?_
  refine zA_ld rfl rfl rfl ?_
  refine zA_push rfl rfl zkk5 ?_
  refine zA_st (st' := [zI (x5 + (1 : Int32)), zrv x0, zrv x1]) rfl rfl rfl rfl ?_
  obtain ⟨p21, i22, j23, v28, e24, c25, c26, e27, e29, H⟩ := zri_e H
  refine zA_ial rfl rfl e24 c25 c26 e27 e29 ?_
  refine zA_aldn rfl rfl rfl ?_
  refine zA_ld rfl rfl rfl ?_
  refine zA_push rfl rfl zkk23 ?_
  refine zA_st (st' := [zI (x5 + (2 : Int32)), zrv x0, zI v28, zrv x1]) rfl rfl rfl rfl ?_
  obtain ⟨p30, i31, j32, v37, e33, c34, c35, e36, e38, H⟩ := zri_e H
  refine zA_ial rfl rfl e33 c34 c35 e36 e38 ?_
  refine zA_aldn rfl rfl rfl ?_
  refine zA_ld rfl rfl rfl ?_
  refine zA_push rfl rfl zkk3 ?_
  refine zA_st (st' := [zI (x5 + (3 : Int32)), zrv x0, zI v37, zI v28, zrv x1]) rfl rfl rfl rfl ?_
  obtain ⟨p39, i40, j41, v46, e42, c43, c44, e45, e47, H⟩ := zri_e H
  refine zA_ial rfl rfl e42 c43 c44 e45 e47 ?_
  rcases zite_e H with ⟨c48, H⟩ | ⟨c48, H⟩
  · refine zA_brT (c := v46 = 0) rfl rfl rfl c48 ?_
    refine zA_push rfl rfl zkk7 ?_
    exact zA_tr (L := [some (zrv x0), some (zrv x1), some (zrv x2), some (zrv x3), some (zrv x4), some (zI x5), none, none, none]) rfl rfl (zmS291_1274 hk16 _ _ _ _ _ _ _ _ _ _ _ _ _ H)
  · refine zA_brF (c := v46 = 0) rfl rfl rfl c48 ?_
    refine zA_push rfl rfl zkk5 ?_
    refine zA_go rfl rfl ?_
    exact zA_tr (L := [some (zrv x0), some (zrv x1), some (zrv x2), some (zrv x3), some (zrv x4), some (zI x5), none, none, none]) rfl rfl (zmS291_1274 hk16 _ _ _ _ _ _ _ _ _ _ _ _ _ H)
def zm291_1209 (k16 : zq → zq → zq → zq → zq → Int32 → zH → zRs Int32) (x0 : zq) (x1 : zq) (x2 : zq) (x3 : zq) (x4 : zq) (x5 : Int32) (h : zH) : zRs Int32 :=
  zri x0 (x5 + (1 : Int32)) h fun v28 =>
  zri x0 (x5 + (2 : Int32)) h fun v37 =>
  zb2 (zm268 x1 v28 v37 x3 h) fun x40 h39 =>
  zri x0 (x5 + (1 : Int32)) h39 fun v48 =>
  zri x0 (x5 + (2 : Int32)) h39 fun v57 =>
  zob 12 x2 fun p59 i60 =>
  zb (zm208 x2 v48 v57 h39) fun x64 h63 =>
  zb (zm137 x2 h63) fun x66 h65 =>
  if x66 = x40 then
    if x40 = 0 then
      zrj x3 (0 : Int32) h65 fun v76 =>
      if (lg_cmp v76 (x64.toInt64)) = 0 then
        zm291_2349 k16 x0 x1 x2 x3 x4 x5 h65
      else
        some (.inl (0 : Int32), h65)
    else
      zm291_2349 k16 x0 x1 x2 x3 x4 x5 h65
  else
    some (.inl (0 : Int32), h65)
theorem zmS291_1209 {k16 : zq → zq → zq → zq → zq → Int32 → zH → zRs Int32} (hk16 : ∀ (x0 : zq) (x1 : zq) (x2 : zq) (x3 : zq) (x4 : zq) (x5 : Int32) (h : zH) (r : Int32 ⊕ Nat) (h' : zH), k16 x0 x1 x2 x3 x4 x5 h = some (r, h') → zAt 291 16 [some (zrv x0), some (zrv x1), some (zrv x2), some (zrv x3), some (zrv x4), some (zI x5), none, none, none] [] h (zoI r) h') : ∀ (x0 : zq) (x1 : zq) (x2 : zq) (x3 : zq) (x4 : zq) (x5 : Int32) (h : zH) (r : Int32 ⊕ Nat) (h' : zH), zm291_1209 k16 x0 x1 x2 x3 x4 x5 h = some (r, h') → zAt 291 1209 [some (zrv x0), some (zrv x1), some (zrv x2), some (zrv x3), some (zrv x4), some (zI x5), none, none, none] [] h (zoI r) h' := by
  intro x0 x1 x2 x3 x4 x5 h r h' H
  unfold zm291_1209 at H
  refine zA_aldn rfl rfl rfl ?_
  refine zA_aldn rfl rfl rfl ?_
  refine zA_ld rfl rfl rfl ?_
  refine zA_push rfl rfl zkk5 ?_
  refine zA_st (st' := [zI (x5 + (1 : Int32)), zrv x0, zrv x1]) rfl rfl rfl rfl ?_
  obtain ⟨p21, i22, j23, v28, e24, c25, c26, e27, e29, H⟩ := zri_e H
  refine zA_ial rfl rfl e24 c25 c26 e27 e29 ?_
  refine zA_aldn rfl rfl rfl ?_
  refine zA_ld rfl rfl rfl ?_
  refine zA_push rfl rfl zkk23 ?_
  refine zA_st (st' := [zI (x5 + (2 : Int32)), zrv x0, zI v28, zrv x1]) rfl rfl rfl rfl ?_
  obtain ⟨p30, i31, j32, v37, e33, c34, c35, e36, e38, H⟩ := zri_e H
  refine zA_ial rfl rfl e33 c34 c35 e36 e38 ?_
  refine zA_aldn rfl rfl rfl ?_
  obtain ⟨x40, h39, C, H⟩ := zb2_e H
  refine zA_callV (as := [zrv x1, zI v28, zI v37, zrv x3]) (st' := []) rfl rfl rfl rfl rfl (zmE268 _ _ _ _) rfl (zmS268 C) ?_
  refine zA_ist2 rfl rfl rfl (zset1 (L' := [some (zrv x0), some (zrv x1), some (zrv x2), some (zrv x3), some (zrv x4), some (zI x5), some (zI x40), none, none]) rfl rfl (zpcV rfl rfl)) ?_
  refine zA_aldn rfl rfl rfl ?_
  refine zA_aldn rfl rfl rfl ?_
  refine zA_ld rfl rfl rfl ?_
  refine zA_push rfl rfl zkk5 ?_
  refine zA_st (st' := [zI (x5 + (1 : Int32)), zrv x0, zrv x2]) rfl rfl rfl rfl ?_
  obtain ⟨p41, i42, j43, v48, e44, c45, c46, e47, e49, H⟩ := zri_e H
  refine zA_ial rfl rfl e44 c45 c46 e47 e49 ?_
  refine zA_aldn rfl rfl rfl ?_
  refine zA_ld rfl rfl rfl ?_
  refine zA_push rfl rfl zkk23 ?_
  refine zA_st (st' := [zI (x5 + (2 : Int32)), zrv x0, zI v48, zrv x2]) rfl rfl rfl rfl ?_
  obtain ⟨p50, i51, j52, v57, e53, c54, c55, e56, e58, H⟩ := zri_e H
  refine zA_ial rfl rfl e53 c54 c55 e56 e58 ?_
  obtain ⟨p59, i60, e61, c62, H⟩ := zob_e H
  rcases zb_e H with ⟨x64, h63, C, H⟩ | ⟨E, h63, C, H⟩
  · refine zA_callV (as := [zrv x2, zI v48, zI v57]) (st' := []) rfl rfl rfl (zrcv_Q e61 c62) rfl (zmE208 _ _ _) rfl (zmS208 C) ?_
    refine zA_ist2 rfl rfl rfl (zset1 (L' := [some (zrv x0), some (zrv x1), some (zrv x2), some (zrv x3), some (zrv x4), some (zI x5), some (zI x40), some (zI x64), none]) rfl rfl (zpcV rfl rfl)) ?_
    refine zA_aldn rfl rfl rfl ?_
    rcases zb_e H with ⟨x66, h65, C, H⟩ | ⟨E, h65, C, H⟩
    · refine zA_callV (as := [zrv x2]) (st' := []) rfl rfl rfl (zrcv_Q e61 c62) rfl (zmE137 _) rfl (zmS137 C) ?_
      refine zA_ld rfl rfl rfl ?_
      rcases zite_e H with ⟨c67, H⟩ | ⟨c67, H⟩
      · refine zA_brT (c := x66 = x40) rfl rfl rfl c67 ?_
        refine zA_ld rfl rfl rfl ?_
        rcases zite_e H with ⟨c68, H⟩ | ⟨c68, H⟩
        · refine zA_brF' (c := x40 = 0) rfl rfl rfl c68 ?_
          refine zA_aldn rfl rfl rfl ?_
          refine zA_push rfl rfl zkk7 ?_
          obtain ⟨p69, i70, j71, v76, e72, c73, c74, e75, e77, H⟩ := zrj_e H
          refine zA_lal rfl rfl e72 c73 c74 e75 e77 ?_
          refine zA_ld rfl rfl rfl ?_
          refine zA_st (st' := [zJ (x64.toInt64), zJ v76]) rfl rfl rfl rfl ?_
          refine zA_st (st' := [zI (lg_cmp v76 (x64.toInt64))]) rfl rfl rfl rfl ?_
          rcases zite_e H with ⟨c78, H⟩ | ⟨c78, H⟩
          · refine zA_brT (c := (lg_cmp v76 (x64.toInt64)) = 0) rfl rfl rfl c78 ?_
            refine zA_tr (L := [some (zrv x0), some (zrv x1), some (zrv x2), some (zrv x3), some (zrv x4), some (zI x5), none, none, none]) rfl rfl ?_
            refine zA_go rfl rfl ?_
            exact zA_tr (L := [some (zrv x0), some (zrv x1), some (zrv x2), some (zrv x3), some (zrv x4), some (zI x5), none, none, none]) rfl rfl (zmS291_2349 hk16 _ _ _ _ _ _ _ _ _ H)
          · refine zA_brF (c := (lg_cmp v76 (x64.toInt64)) = 0) rfl rfl rfl c78 ?_
            refine zA_push rfl rfl zkk7 ?_
            cases H
            exact zA_ret rfl (zret_Z (by decide))
        · refine zA_brT' (c := x40 = 0) rfl rfl rfl c68 ?_
          refine zA_tr (L := [some (zrv x0), some (zrv x1), some (zrv x2), some (zrv x3), some (zrv x4), some (zI x5), none, none, none]) rfl rfl ?_
          refine zA_go rfl rfl ?_
          exact zA_tr (L := [some (zrv x0), some (zrv x1), some (zrv x2), some (zrv x3), some (zrv x4), some (zI x5), none, none, none]) rfl rfl (zmS291_2349 hk16 _ _ _ _ _ _ _ _ _ H)
      · refine zA_brF (c := x66 = x40) rfl rfl rfl c67 ?_
        refine zA_push rfl rfl zkk7 ?_
        cases H
        exact zA_ret rfl (zret_Z (by decide))
    · cases H
      exact zA_callX (as := [zrv x2]) (st' := []) rfl rfl (zrcv_Q e61 c62) rfl (zmE137 _) rfl rfl rfl (zmS137 C)
  · cases H
    exact zA_callX (as := [zrv x2, zI v48, zI v57]) (st' := []) rfl rfl (zrcv_Q e61 c62) rfl (zmE208 _ _ _) rfl rfl rfl (zmS208 C)
def zm291_1177 (k16 : zq → zq → zq → zq → zq → Int32 → zH → zRs Int32) (x0 : zq) (x1 : zq) (x2 : zq) (x3 : zq) (x4 : zq) (x5 : Int32) (h : zH) : zRs Int32 :=
  zri x0 (x5 + (1 : Int32)) h fun v28 =>
  zri x0 (x5 + (2 : Int32)) h fun v37 =>
  zb2 (zm267 x1 v28 v37 h) fun x40 h39 =>
  zri x0 (x5 + (1 : Int32)) h39 fun v48 =>
  zri x0 (x5 + (2 : Int32)) h39 fun v57 =>
  zob 12 x2 fun p59 i60 =>
  zb (zm207 x2 v48 v57 h39) fun _ h63 =>
  zb (zm137 x2 h63) fun x65 h64 =>
  if x65 = x40 then
    zm291_2349 k16 x0 x1 x2 x3 x4 x5 h64
  else
    some (.inl (0 : Int32), h64)
theorem zmS291_1177 {k16 : zq → zq → zq → zq → zq → Int32 → zH → zRs Int32} (hk16 : ∀ (x0 : zq) (x1 : zq) (x2 : zq) (x3 : zq) (x4 : zq) (x5 : Int32) (h : zH) (r : Int32 ⊕ Nat) (h' : zH), k16 x0 x1 x2 x3 x4 x5 h = some (r, h') → zAt 291 16 [some (zrv x0), some (zrv x1), some (zrv x2), some (zrv x3), some (zrv x4), some (zI x5), none, none, none] [] h (zoI r) h') : ∀ (x0 : zq) (x1 : zq) (x2 : zq) (x3 : zq) (x4 : zq) (x5 : Int32) (h : zH) (r : Int32 ⊕ Nat) (h' : zH), zm291_1177 k16 x0 x1 x2 x3 x4 x5 h = some (r, h') → zAt 291 1177 [some (zrv x0), some (zrv x1), some (zrv x2), some (zrv x3), some (zrv x4), some (zI x5), none, none, none] [] h (zoI r) h' := by
  intro x0 x1 x2 x3 x4 x5 h r h' H
  unfold zm291_1177 at H
  refine zA_aldn rfl rfl rfl ?_
  refine zA_aldn rfl rfl rfl ?_
  refine zA_ld rfl rfl rfl ?_
  refine zA_push rfl rfl zkk5 ?_
  refine zA_st (st' := [zI (x5 + (1 : Int32)), zrv x0, zrv x1]) rfl rfl rfl rfl ?_
  obtain ⟨p21, i22, j23, v28, e24, c25, c26, e27, e29, H⟩ := zri_e H
  refine zA_ial rfl rfl e24 c25 c26 e27 e29 ?_
  refine zA_aldn rfl rfl rfl ?_
  refine zA_ld rfl rfl rfl ?_
  refine zA_push rfl rfl zkk23 ?_
  refine zA_st (st' := [zI (x5 + (2 : Int32)), zrv x0, zI v28, zrv x1]) rfl rfl rfl rfl ?_
  obtain ⟨p30, i31, j32, v37, e33, c34, c35, e36, e38, H⟩ := zri_e H
  refine zA_ial rfl rfl e33 c34 c35 e36 e38 ?_
  obtain ⟨x40, h39, C, H⟩ := zb2_e H
  refine zA_callV (as := [zrv x1, zI v28, zI v37]) (st' := []) rfl rfl rfl rfl rfl (zmE267 _ _ _) rfl (zmS267 C) ?_
  refine zA_ist2 rfl rfl rfl (zset1 (L' := [some (zrv x0), some (zrv x1), some (zrv x2), some (zrv x3), some (zrv x4), some (zI x5), some (zI x40), none, none]) rfl rfl (zpcV rfl rfl)) ?_
  refine zA_aldn rfl rfl rfl ?_
  refine zA_aldn rfl rfl rfl ?_
  refine zA_ld rfl rfl rfl ?_
  refine zA_push rfl rfl zkk5 ?_
  refine zA_st (st' := [zI (x5 + (1 : Int32)), zrv x0, zrv x2]) rfl rfl rfl rfl ?_
  obtain ⟨p41, i42, j43, v48, e44, c45, c46, e47, e49, H⟩ := zri_e H
  refine zA_ial rfl rfl e44 c45 c46 e47 e49 ?_
  refine zA_aldn rfl rfl rfl ?_
  refine zA_ld rfl rfl rfl ?_
  refine zA_push rfl rfl zkk23 ?_
  refine zA_st (st' := [zI (x5 + (2 : Int32)), zrv x0, zI v48, zrv x2]) rfl rfl rfl rfl ?_
  obtain ⟨p50, i51, j52, v57, e53, c54, c55, e56, e58, H⟩ := zri_e H
  refine zA_ial rfl rfl e53 c54 c55 e56 e58 ?_
  obtain ⟨p59, i60, e61, c62, H⟩ := zob_e H
  rcases zb_e H with ⟨u67, h63, C, H⟩ | ⟨E, h63, C, H⟩
  · refine zA_callU (as := [zrv x2, zI v48, zI v57]) (st' := []) rfl rfl rfl (zrcv_Q e61 c62) rfl (zmE207 _ _ _) rfl (zmS207 C) ?_
    refine zA_aldn rfl rfl rfl ?_
    rcases zb_e H with ⟨x65, h64, C, H⟩ | ⟨E, h64, C, H⟩
    · refine zA_callV (as := [zrv x2]) (st' := []) rfl rfl rfl (zrcv_Q e61 c62) rfl (zmE137 _) rfl (zmS137 C) ?_
      refine zA_ld rfl rfl rfl ?_
      rcases zite_e H with ⟨c66, H⟩ | ⟨c66, H⟩
      · refine zA_brT (c := x65 = x40) rfl rfl rfl c66 ?_
        refine zA_tr (L := [some (zrv x0), some (zrv x1), some (zrv x2), some (zrv x3), some (zrv x4), some (zI x5), none, none, none]) rfl rfl ?_
        refine zA_go rfl rfl ?_
        exact zA_tr (L := [some (zrv x0), some (zrv x1), some (zrv x2), some (zrv x3), some (zrv x4), some (zI x5), none, none, none]) rfl rfl (zmS291_2349 hk16 _ _ _ _ _ _ _ _ _ H)
      · refine zA_brF (c := x65 = x40) rfl rfl rfl c66 ?_
        refine zA_push rfl rfl zkk7 ?_
        cases H
        exact zA_ret rfl (zret_Z (by decide))
    · cases H
      exact zA_callX (as := [zrv x2]) (st' := []) rfl rfl (zrcv_Q e61 c62) rfl (zmE137 _) rfl rfl rfl (zmS137 C)
  · cases H
    exact zA_callX (as := [zrv x2, zI v48, zI v57]) (st' := []) rfl rfl (zrcv_Q e61 c62) rfl (zmE207 _ _ _) rfl rfl rfl (zmS207 C)
def zm291_1142 (k16 : zq → zq → zq → zq → zq → Int32 → zH → zRs Int32) (x0 : zq) (x1 : zq) (x2 : zq) (x3 : zq) (x4 : zq) (x5 : Int32) (h : zH) : zRs Int32 :=
  zri x0 (x5 + (1 : Int32)) h fun v28 =>
  zb2 (zm266 x1 v28 x3 h) fun x31 h30 =>
  zri x0 (x5 + (1 : Int32)) h30 fun v39 =>
  zob 12 x2 fun p41 i42 =>
  zb (zm206 x2 v39 h30) fun x46 h45 =>
  zb (zm137 x2 h45) fun x48 h47 =>
  if x48 = x31 then
    if x31 = 0 then
      zrj x3 (0 : Int32) h47 fun v58 =>
      if (lg_cmp v58 (x46.toInt64)) = 0 then
        zm291_2349 k16 x0 x1 x2 x3 x4 x5 h47
      else
        some (.inl (0 : Int32), h47)
    else
      zm291_2349 k16 x0 x1 x2 x3 x4 x5 h47
  else
    some (.inl (0 : Int32), h47)
theorem zmS291_1142 {k16 : zq → zq → zq → zq → zq → Int32 → zH → zRs Int32} (hk16 : ∀ (x0 : zq) (x1 : zq) (x2 : zq) (x3 : zq) (x4 : zq) (x5 : Int32) (h : zH) (r : Int32 ⊕ Nat) (h' : zH), k16 x0 x1 x2 x3 x4 x5 h = some (r, h') → zAt 291 16 [some (zrv x0), some (zrv x1), some (zrv x2), some (zrv x3), some (zrv x4), some (zI x5), none, none, none] [] h (zoI r) h') : ∀ (x0 : zq) (x1 : zq) (x2 : zq) (x3 : zq) (x4 : zq) (x5 : Int32) (h : zH) (r : Int32 ⊕ Nat) (h' : zH), zm291_1142 k16 x0 x1 x2 x3 x4 x5 h = some (r, h') → zAt 291 1142 [some (zrv x0), some (zrv x1), some (zrv x2), some (zrv x3), some (zrv x4), some (zI x5), none, none, none] [] h (zoI r) h' := by
  intro x0 x1 x2 x3 x4 x5 h r h' H
  unfold zm291_1142 at H
  refine zA_aldn rfl rfl rfl ?_
  refine zA_aldn rfl rfl rfl ?_
  refine zA_ld rfl rfl rfl ?_
  refine zA_push rfl rfl zkk5 ?_
  refine zA_st (st' := [zI (x5 + (1 : Int32)), zrv x0, zrv x1]) rfl rfl rfl rfl ?_
  obtain ⟨p21, i22, j23, v28, e24, c25, c26, e27, e29, H⟩ := zri_e H
  refine zA_ial rfl rfl e24 c25 c26 e27 e29 ?_
  refine zA_aldn rfl rfl rfl ?_
  obtain ⟨x31, h30, C, H⟩ := zb2_e H
  refine zA_callV (as := [zrv x1, zI v28, zrv x3]) (st' := []) rfl rfl rfl rfl rfl (zmE266 _ _ _) rfl (zmS266 C) ?_
  refine zA_ist2 rfl rfl rfl (zset1 (L' := [some (zrv x0), some (zrv x1), some (zrv x2), some (zrv x3), some (zrv x4), some (zI x5), some (zI x31), none, none]) rfl rfl (zpcV rfl rfl)) ?_
  refine zA_aldn rfl rfl rfl ?_
  refine zA_aldn rfl rfl rfl ?_
  refine zA_ld rfl rfl rfl ?_
  refine zA_push rfl rfl zkk5 ?_
  refine zA_st (st' := [zI (x5 + (1 : Int32)), zrv x0, zrv x2]) rfl rfl rfl rfl ?_
  obtain ⟨p32, i33, j34, v39, e35, c36, c37, e38, e40, H⟩ := zri_e H
  refine zA_ial rfl rfl e35 c36 c37 e38 e40 ?_
  obtain ⟨p41, i42, e43, c44, H⟩ := zob_e H
  rcases zb_e H with ⟨x46, h45, C, H⟩ | ⟨E, h45, C, H⟩
  · refine zA_callV (as := [zrv x2, zI v39]) (st' := []) rfl rfl rfl (zrcv_Q e43 c44) rfl (zmE206 _ _) rfl (zmS206 C) ?_
    refine zA_ist2 rfl rfl rfl (zset1 (L' := [some (zrv x0), some (zrv x1), some (zrv x2), some (zrv x3), some (zrv x4), some (zI x5), some (zI x31), some (zI x46), none]) rfl rfl (zpcV rfl rfl)) ?_
    refine zA_aldn rfl rfl rfl ?_
    rcases zb_e H with ⟨x48, h47, C, H⟩ | ⟨E, h47, C, H⟩
    · refine zA_callV (as := [zrv x2]) (st' := []) rfl rfl rfl (zrcv_Q e43 c44) rfl (zmE137 _) rfl (zmS137 C) ?_
      refine zA_ld rfl rfl rfl ?_
      rcases zite_e H with ⟨c49, H⟩ | ⟨c49, H⟩
      · refine zA_brT (c := x48 = x31) rfl rfl rfl c49 ?_
        refine zA_ld rfl rfl rfl ?_
        rcases zite_e H with ⟨c50, H⟩ | ⟨c50, H⟩
        · refine zA_brF' (c := x31 = 0) rfl rfl rfl c50 ?_
          refine zA_aldn rfl rfl rfl ?_
          refine zA_push rfl rfl zkk7 ?_
          obtain ⟨p51, i52, j53, v58, e54, c55, c56, e57, e59, H⟩ := zrj_e H
          refine zA_lal rfl rfl e54 c55 c56 e57 e59 ?_
          refine zA_ld rfl rfl rfl ?_
          refine zA_st (st' := [zJ (x46.toInt64), zJ v58]) rfl rfl rfl rfl ?_
          refine zA_st (st' := [zI (lg_cmp v58 (x46.toInt64))]) rfl rfl rfl rfl ?_
          rcases zite_e H with ⟨c60, H⟩ | ⟨c60, H⟩
          · refine zA_brT (c := (lg_cmp v58 (x46.toInt64)) = 0) rfl rfl rfl c60 ?_
            refine zA_tr (L := [some (zrv x0), some (zrv x1), some (zrv x2), some (zrv x3), some (zrv x4), some (zI x5), none, none, none]) rfl rfl ?_
            refine zA_go rfl rfl ?_
            exact zA_tr (L := [some (zrv x0), some (zrv x1), some (zrv x2), some (zrv x3), some (zrv x4), some (zI x5), none, none, none]) rfl rfl (zmS291_2349 hk16 _ _ _ _ _ _ _ _ _ H)
          · refine zA_brF (c := (lg_cmp v58 (x46.toInt64)) = 0) rfl rfl rfl c60 ?_
            refine zA_push rfl rfl zkk7 ?_
            cases H
            exact zA_ret rfl (zret_Z (by decide))
        · refine zA_brT' (c := x31 = 0) rfl rfl rfl c50 ?_
          refine zA_tr (L := [some (zrv x0), some (zrv x1), some (zrv x2), some (zrv x3), some (zrv x4), some (zI x5), none, none, none]) rfl rfl ?_
          refine zA_go rfl rfl ?_
          exact zA_tr (L := [some (zrv x0), some (zrv x1), some (zrv x2), some (zrv x3), some (zrv x4), some (zI x5), none, none, none]) rfl rfl (zmS291_2349 hk16 _ _ _ _ _ _ _ _ _ H)
      · refine zA_brF (c := x48 = x31) rfl rfl rfl c49 ?_
        refine zA_push rfl rfl zkk7 ?_
        cases H
        exact zA_ret rfl (zret_Z (by decide))
    · cases H
      exact zA_callX (as := [zrv x2]) (st' := []) rfl rfl (zrcv_Q e43 c44) rfl (zmE137 _) rfl rfl rfl (zmS137 C)
  · cases H
    exact zA_callX (as := [zrv x2, zI v39]) (st' := []) rfl rfl (zrcv_Q e43 c44) rfl (zmE206 _ _) rfl rfl rfl (zmS206 C)
def zm291_1100 (k16 : zq → zq → zq → zq → zq → Int32 → zH → zRs Int32) (x0 : zq) (x1 : zq) (x2 : zq) (x3 : zq) (x4 : zq) (x5 : Int32) (h : zH) : zRs Int32 :=
  zri x0 (x5 + (1 : Int32)) h fun v28 =>
  zri x0 (x5 + (2 : Int32)) h fun v37 =>
  zri x0 (x5 + (3 : Int32)) h fun v46 =>
  zb2 (zm265 x1 v28 v37 v46 h) fun x49 h48 =>
  zri x0 (x5 + (1 : Int32)) h48 fun v57 =>
  zri x0 (x5 + (2 : Int32)) h48 fun v66 =>
  zri x0 (x5 + (3 : Int32)) h48 fun v75 =>
  zob 12 x2 fun p77 i78 =>
  zb (zm205 x2 v57 v66 v75 h48) fun _ h81 =>
  zb (zm137 x2 h81) fun x83 h82 =>
  if x83 = x49 then
    zm291_2349 k16 x0 x1 x2 x3 x4 x5 h82
  else
    some (.inl (0 : Int32), h82)
theorem zmS291_1100 {k16 : zq → zq → zq → zq → zq → Int32 → zH → zRs Int32} (hk16 : ∀ (x0 : zq) (x1 : zq) (x2 : zq) (x3 : zq) (x4 : zq) (x5 : Int32) (h : zH) (r : Int32 ⊕ Nat) (h' : zH), k16 x0 x1 x2 x3 x4 x5 h = some (r, h') → zAt 291 16 [some (zrv x0), some (zrv x1), some (zrv x2), some (zrv x3), some (zrv x4), some (zI x5), none, none, none] [] h (zoI r) h') : ∀ (x0 : zq) (x1 : zq) (x2 : zq) (x3 : zq) (x4 : zq) (x5 : Int32) (h : zH) (r : Int32 ⊕ Nat) (h' : zH), zm291_1100 k16 x0 x1 x2 x3 x4 x5 h = some (r, h') → zAt 291 1100 [some (zrv x0), some (zrv x1), some (zrv x2), some (zrv x3), some (zrv x4), some (zI x5), none, none, none] [] h (zoI r) h' := by
  intro x0 x1 x2 x3 x4 x5 h r h' H
  unfold zm291_1100 at H
  refine zA_aldn rfl rfl rfl ?_
  refine zA_aldn rfl rfl rfl ?_
  refine zA_ld rfl rfl rfl ?_
  refine zA_push rfl rfl zkk5 ?_
  refine zA_st (st' := [zI (x5 + (1 : Int32)), zrv x0, zrv x1]) rfl rfl rfl rfl ?_
  obtain ⟨p21, i22, j23, v28, e24, c25, c26, e27, e29, H⟩ := zri_e H
  refine zA_ial rfl rfl e24 c25 c26 e27 e29 ?_
  refine zA_aldn rfl rfl rfl ?_
  refine zA_ld rfl rfl rfl ?_
  refine zA_push rfl rfl zkk23 ?_
  refine zA_st (st' := [zI (x5 + (2 : Int32)), zrv x0, zI v28, zrv x1]) rfl rfl rfl rfl ?_
  obtain ⟨p30, i31, j32, v37, e33, c34, c35, e36, e38, H⟩ := zri_e H
  refine zA_ial rfl rfl e33 c34 c35 e36 e38 ?_
  refine zA_aldn rfl rfl rfl ?_
  refine zA_ld rfl rfl rfl ?_
  refine zA_push rfl rfl zkk3 ?_
  refine zA_st (st' := [zI (x5 + (3 : Int32)), zrv x0, zI v37, zI v28, zrv x1]) rfl rfl rfl rfl ?_
  obtain ⟨p39, i40, j41, v46, e42, c43, c44, e45, e47, H⟩ := zri_e H
  refine zA_ial rfl rfl e42 c43 c44 e45 e47 ?_
  obtain ⟨x49, h48, C, H⟩ := zb2_e H
  refine zA_callV (as := [zrv x1, zI v28, zI v37, zI v46]) (st' := []) rfl rfl rfl rfl rfl (zmE265 _ _ _ _) rfl (zmS265 C) ?_
  refine zA_ist2 rfl rfl rfl (zset1 (L' := [some (zrv x0), some (zrv x1), some (zrv x2), some (zrv x3), some (zrv x4), some (zI x5), some (zI x49), none, none]) rfl rfl (zpcV rfl rfl)) ?_
  refine zA_aldn rfl rfl rfl ?_
  refine zA_aldn rfl rfl rfl ?_
  refine zA_ld rfl rfl rfl ?_
  refine zA_push rfl rfl zkk5 ?_
  refine zA_st (st' := [zI (x5 + (1 : Int32)), zrv x0, zrv x2]) rfl rfl rfl rfl ?_
  obtain ⟨p50, i51, j52, v57, e53, c54, c55, e56, e58, H⟩ := zri_e H
  refine zA_ial rfl rfl e53 c54 c55 e56 e58 ?_
  refine zA_aldn rfl rfl rfl ?_
  refine zA_ld rfl rfl rfl ?_
  refine zA_push rfl rfl zkk23 ?_
  refine zA_st (st' := [zI (x5 + (2 : Int32)), zrv x0, zI v57, zrv x2]) rfl rfl rfl rfl ?_
  obtain ⟨p59, i60, j61, v66, e62, c63, c64, e65, e67, H⟩ := zri_e H
  refine zA_ial rfl rfl e62 c63 c64 e65 e67 ?_
  refine zA_aldn rfl rfl rfl ?_
  refine zA_ld rfl rfl rfl ?_
  refine zA_push rfl rfl zkk3 ?_
  refine zA_st (st' := [zI (x5 + (3 : Int32)), zrv x0, zI v66, zI v57, zrv x2]) rfl rfl rfl rfl ?_
  obtain ⟨p68, i69, j70, v75, e71, c72, c73, e74, e76, H⟩ := zri_e H
  refine zA_ial rfl rfl e71 c72 c73 e74 e76 ?_
  obtain ⟨p77, i78, e79, c80, H⟩ := zob_e H
  rcases zb_e H with ⟨u85, h81, C, H⟩ | ⟨E, h81, C, H⟩
  · refine zA_callU (as := [zrv x2, zI v57, zI v66, zI v75]) (st' := []) rfl rfl rfl (zrcv_Q e79 c80) rfl (zmE205 _ _ _ _) rfl (zmS205 C) ?_
    refine zA_aldn rfl rfl rfl ?_
    rcases zb_e H with ⟨x83, h82, C, H⟩ | ⟨E, h82, C, H⟩
    · refine zA_callV (as := [zrv x2]) (st' := []) rfl rfl rfl (zrcv_Q e79 c80) rfl (zmE137 _) rfl (zmS137 C) ?_
      refine zA_ld rfl rfl rfl ?_
      rcases zite_e H with ⟨c84, H⟩ | ⟨c84, H⟩
      · refine zA_brT (c := x83 = x49) rfl rfl rfl c84 ?_
        refine zA_tr (L := [some (zrv x0), some (zrv x1), some (zrv x2), some (zrv x3), some (zrv x4), some (zI x5), none, none, none]) rfl rfl ?_
        refine zA_go rfl rfl ?_
        exact zA_tr (L := [some (zrv x0), some (zrv x1), some (zrv x2), some (zrv x3), some (zrv x4), some (zI x5), none, none, none]) rfl rfl (zmS291_2349 hk16 _ _ _ _ _ _ _ _ _ H)
      · refine zA_brF (c := x83 = x49) rfl rfl rfl c84 ?_
        refine zA_push rfl rfl zkk7 ?_
        cases H
        exact zA_ret rfl (zret_Z (by decide))
    · cases H
      exact zA_callX (as := [zrv x2]) (st' := []) rfl rfl (zrcv_Q e79 c80) rfl (zmE137 _) rfl rfl rfl (zmS137 C)
  · cases H
    exact zA_callX (as := [zrv x2, zI v57, zI v66, zI v75]) (st' := []) rfl rfl (zrcv_Q e79 c80) rfl (zmE205 _ _ _ _) rfl rfl rfl (zmS205 C)
def zm291_1068 (k16 : zq → zq → zq → zq → zq → Int32 → zH → zRs Int32) (x0 : zq) (x1 : zq) (x2 : zq) (x3 : zq) (x4 : zq) (x5 : Int32) (h : zH) : zRs Int32 :=
  zri x0 (x5 + (1 : Int32)) h fun v28 =>
  zri x0 (x5 + (2 : Int32)) h fun v37 =>
  zb2 (zm264 x1 v28 v37 h) fun x40 h39 =>
  zri x0 (x5 + (1 : Int32)) h39 fun v48 =>
  zri x0 (x5 + (2 : Int32)) h39 fun v57 =>
  zob 12 x2 fun p59 i60 =>
  zb (zm204 x2 v48 v57 h39) fun _ h63 =>
  zb (zm137 x2 h63) fun x65 h64 =>
  if x65 = x40 then
    zm291_2349 k16 x0 x1 x2 x3 x4 x5 h64
  else
    some (.inl (0 : Int32), h64)
theorem zmS291_1068 {k16 : zq → zq → zq → zq → zq → Int32 → zH → zRs Int32} (hk16 : ∀ (x0 : zq) (x1 : zq) (x2 : zq) (x3 : zq) (x4 : zq) (x5 : Int32) (h : zH) (r : Int32 ⊕ Nat) (h' : zH), k16 x0 x1 x2 x3 x4 x5 h = some (r, h') → zAt 291 16 [some (zrv x0), some (zrv x1), some (zrv x2), some (zrv x3), some (zrv x4), some (zI x5), none, none, none] [] h (zoI r) h') : ∀ (x0 : zq) (x1 : zq) (x2 : zq) (x3 : zq) (x4 : zq) (x5 : Int32) (h : zH) (r : Int32 ⊕ Nat) (h' : zH), zm291_1068 k16 x0 x1 x2 x3 x4 x5 h = some (r, h') → zAt 291 1068 [some (zrv x0), some (zrv x1), some (zrv x2), some (zrv x3), some (zrv x4), some (zI x5), none, none, none] [] h (zoI r) h' := by
  intro x0 x1 x2 x3 x4 x5 h r h' H
  unfold zm291_1068 at H
  refine zA_aldn rfl rfl rfl ?_
  refine zA_aldn rfl rfl rfl ?_
  refine zA_ld rfl rfl rfl ?_
  refine zA_push rfl rfl zkk5 ?_
  refine zA_st (st' := [zI (x5 + (1 : Int32)), zrv x0, zrv x1]) rfl rfl rfl rfl ?_
  obtain ⟨p21, i22, j23, v28, e24, c25, c26, e27, e29, H⟩ := zri_e H
  refine zA_ial rfl rfl e24 c25 c26 e27 e29 ?_
  refine zA_aldn rfl rfl rfl ?_
  refine zA_ld rfl rfl rfl ?_
  refine zA_push rfl rfl zkk23 ?_
  refine zA_st (st' := [zI (x5 + (2 : Int32)), zrv x0, zI v28, zrv x1]) rfl rfl rfl rfl ?_
  obtain ⟨p30, i31, j32, v37, e33, c34, c35, e36, e38, H⟩ := zri_e H
  refine zA_ial rfl rfl e33 c34 c35 e36 e38 ?_
  obtain ⟨x40, h39, C, H⟩ := zb2_e H
  refine zA_callV (as := [zrv x1, zI v28, zI v37]) (st' := []) rfl rfl rfl rfl rfl (zmE264 _ _ _) rfl (zmS264 C) ?_
  refine zA_ist2 rfl rfl rfl (zset1 (L' := [some (zrv x0), some (zrv x1), some (zrv x2), some (zrv x3), some (zrv x4), some (zI x5), some (zI x40), none, none]) rfl rfl (zpcV rfl rfl)) ?_
  refine zA_aldn rfl rfl rfl ?_
  refine zA_aldn rfl rfl rfl ?_
  refine zA_ld rfl rfl rfl ?_
  refine zA_push rfl rfl zkk5 ?_
  refine zA_st (st' := [zI (x5 + (1 : Int32)), zrv x0, zrv x2]) rfl rfl rfl rfl ?_
  obtain ⟨p41, i42, j43, v48, e44, c45, c46, e47, e49, H⟩ := zri_e H
  refine zA_ial rfl rfl e44 c45 c46 e47 e49 ?_
  refine zA_aldn rfl rfl rfl ?_
  refine zA_ld rfl rfl rfl ?_
  refine zA_push rfl rfl zkk23 ?_
  refine zA_st (st' := [zI (x5 + (2 : Int32)), zrv x0, zI v48, zrv x2]) rfl rfl rfl rfl ?_
  obtain ⟨p50, i51, j52, v57, e53, c54, c55, e56, e58, H⟩ := zri_e H
  refine zA_ial rfl rfl e53 c54 c55 e56 e58 ?_
  obtain ⟨p59, i60, e61, c62, H⟩ := zob_e H
  rcases zb_e H with ⟨u67, h63, C, H⟩ | ⟨E, h63, C, H⟩
  · refine zA_callU (as := [zrv x2, zI v48, zI v57]) (st' := []) rfl rfl rfl (zrcv_Q e61 c62) rfl (zmE204 _ _ _) rfl (zmS204 C) ?_
    refine zA_aldn rfl rfl rfl ?_
    rcases zb_e H with ⟨x65, h64, C, H⟩ | ⟨E, h64, C, H⟩
    · refine zA_callV (as := [zrv x2]) (st' := []) rfl rfl rfl (zrcv_Q e61 c62) rfl (zmE137 _) rfl (zmS137 C) ?_
      refine zA_ld rfl rfl rfl ?_
      rcases zite_e H with ⟨c66, H⟩ | ⟨c66, H⟩
      · refine zA_brT (c := x65 = x40) rfl rfl rfl c66 ?_
        refine zA_tr (L := [some (zrv x0), some (zrv x1), some (zrv x2), some (zrv x3), some (zrv x4), some (zI x5), none, none, none]) rfl rfl ?_
        refine zA_go rfl rfl ?_
        exact zA_tr (L := [some (zrv x0), some (zrv x1), some (zrv x2), some (zrv x3), some (zrv x4), some (zI x5), none, none, none]) rfl rfl (zmS291_2349 hk16 _ _ _ _ _ _ _ _ _ H)
      · refine zA_brF (c := x65 = x40) rfl rfl rfl c66 ?_
        refine zA_push rfl rfl zkk7 ?_
        cases H
        exact zA_ret rfl (zret_Z (by decide))
    · cases H
      exact zA_callX (as := [zrv x2]) (st' := []) rfl rfl (zrcv_Q e61 c62) rfl (zmE137 _) rfl rfl rfl (zmS137 C)
  · cases H
    exact zA_callX (as := [zrv x2, zI v48, zI v57]) (st' := []) rfl rfl (zrcv_Q e61 c62) rfl (zmE204 _ _ _) rfl rfl rfl (zmS204 C)
def zm291_1023 (k16 : zq → zq → zq → zq → zq → Int32 → zH → zRs Int32) (x0 : zq) (x1 : zq) (x2 : zq) (x3 : zq) (x4 : zq) (x5 : Int32) (h : zH) : zRs Int32 :=
  zri x0 (x5 + (1 : Int32)) h fun v28 =>
  zri x0 (x5 + (2 : Int32)) h fun v37 =>
  zb2 (zm263 x1 v28 v37 x3 h) fun x40 h39 =>
  zri x0 (x5 + (1 : Int32)) h39 fun v48 =>
  zri x0 (x5 + (2 : Int32)) h39 fun v57 =>
  zob 12 x2 fun p59 i60 =>
  zb (zm201 x2 v48 v57 h39) fun x64 h63 =>
  zb (zm137 x2 h63) fun x66 h65 =>
  if x66 = x40 then
    if x40 = 0 then
      zrj x3 (0 : Int32) h65 fun v76 =>
      if (lg_cmp v76 (x64.toInt64)) = 0 then
        zm291_2349 k16 x0 x1 x2 x3 x4 x5 h65
      else
        some (.inl (0 : Int32), h65)
    else
      zm291_2349 k16 x0 x1 x2 x3 x4 x5 h65
  else
    some (.inl (0 : Int32), h65)
theorem zmS291_1023 {k16 : zq → zq → zq → zq → zq → Int32 → zH → zRs Int32} (hk16 : ∀ (x0 : zq) (x1 : zq) (x2 : zq) (x3 : zq) (x4 : zq) (x5 : Int32) (h : zH) (r : Int32 ⊕ Nat) (h' : zH), k16 x0 x1 x2 x3 x4 x5 h = some (r, h') → zAt 291 16 [some (zrv x0), some (zrv x1), some (zrv x2), some (zrv x3), some (zrv x4), some (zI x5), none, none, none] [] h (zoI r) h') : ∀ (x0 : zq) (x1 : zq) (x2 : zq) (x3 : zq) (x4 : zq) (x5 : Int32) (h : zH) (r : Int32 ⊕ Nat) (h' : zH), zm291_1023 k16 x0 x1 x2 x3 x4 x5 h = some (r, h') → zAt 291 1023 [some (zrv x0), some (zrv x1), some (zrv x2), some (zrv x3), some (zrv x4), some (zI x5), none, none, none] [] h (zoI r) h' := by
  intro x0 x1 x2 x3 x4 x5 h r h' H
  unfold zm291_1023 at H
  refine zA_aldn rfl rfl rfl ?_
  refine zA_aldn rfl rfl rfl ?_
  refine zA_ld rfl rfl rfl ?_
  refine zA_push rfl rfl zkk5 ?_
  refine zA_st (st' := [zI (x5 + (1 : Int32)), zrv x0, zrv x1]) rfl rfl rfl rfl ?_
  obtain ⟨p21, i22, j23, v28, e24, c25, c26, e27, e29, H⟩ := zri_e H
  refine zA_ial rfl rfl e24 c25 c26 e27 e29 ?_
  refine zA_aldn rfl rfl rfl ?_
  refine zA_ld rfl rfl rfl ?_
  refine zA_push rfl rfl zkk23 ?_
  refine zA_st (st' := [zI (x5 + (2 : Int32)), zrv x0, zI v28, zrv x1]) rfl rfl rfl rfl ?_
  obtain ⟨p30, i31, j32, v37, e33, c34, c35, e36, e38, H⟩ := zri_e H
  refine zA_ial rfl rfl e33 c34 c35 e36 e38 ?_
  refine zA_aldn rfl rfl rfl ?_
  obtain ⟨x40, h39, C, H⟩ := zb2_e H
  refine zA_callV (as := [zrv x1, zI v28, zI v37, zrv x3]) (st' := []) rfl rfl rfl rfl rfl (zmE263 _ _ _ _) rfl (zmS263 C) ?_
  refine zA_ist2 rfl rfl rfl (zset1 (L' := [some (zrv x0), some (zrv x1), some (zrv x2), some (zrv x3), some (zrv x4), some (zI x5), some (zI x40), none, none]) rfl rfl (zpcV rfl rfl)) ?_
  refine zA_aldn rfl rfl rfl ?_
  refine zA_aldn rfl rfl rfl ?_
  refine zA_ld rfl rfl rfl ?_
  refine zA_push rfl rfl zkk5 ?_
  refine zA_st (st' := [zI (x5 + (1 : Int32)), zrv x0, zrv x2]) rfl rfl rfl rfl ?_
  obtain ⟨p41, i42, j43, v48, e44, c45, c46, e47, e49, H⟩ := zri_e H
  refine zA_ial rfl rfl e44 c45 c46 e47 e49 ?_
  refine zA_aldn rfl rfl rfl ?_
  refine zA_ld rfl rfl rfl ?_
  refine zA_push rfl rfl zkk23 ?_
  refine zA_st (st' := [zI (x5 + (2 : Int32)), zrv x0, zI v48, zrv x2]) rfl rfl rfl rfl ?_
  obtain ⟨p50, i51, j52, v57, e53, c54, c55, e56, e58, H⟩ := zri_e H
  refine zA_ial rfl rfl e53 c54 c55 e56 e58 ?_
  obtain ⟨p59, i60, e61, c62, H⟩ := zob_e H
  rcases zb_e H with ⟨x64, h63, C, H⟩ | ⟨E, h63, C, H⟩
  · refine zA_callV (as := [zrv x2, zI v48, zI v57]) (st' := []) rfl rfl rfl (zrcv_Q e61 c62) rfl (zmE201 _ _ _) rfl (zmS201 C) ?_
    refine zA_ist2 rfl rfl rfl (zset1 (L' := [some (zrv x0), some (zrv x1), some (zrv x2), some (zrv x3), some (zrv x4), some (zI x5), some (zI x40), some (zI x64), none]) rfl rfl (zpcV rfl rfl)) ?_
    refine zA_aldn rfl rfl rfl ?_
    rcases zb_e H with ⟨x66, h65, C, H⟩ | ⟨E, h65, C, H⟩
    · refine zA_callV (as := [zrv x2]) (st' := []) rfl rfl rfl (zrcv_Q e61 c62) rfl (zmE137 _) rfl (zmS137 C) ?_
      refine zA_ld rfl rfl rfl ?_
      rcases zite_e H with ⟨c67, H⟩ | ⟨c67, H⟩
      · refine zA_brT (c := x66 = x40) rfl rfl rfl c67 ?_
        refine zA_ld rfl rfl rfl ?_
        rcases zite_e H with ⟨c68, H⟩ | ⟨c68, H⟩
        · refine zA_brF' (c := x40 = 0) rfl rfl rfl c68 ?_
          refine zA_aldn rfl rfl rfl ?_
          refine zA_push rfl rfl zkk7 ?_
          obtain ⟨p69, i70, j71, v76, e72, c73, c74, e75, e77, H⟩ := zrj_e H
          refine zA_lal rfl rfl e72 c73 c74 e75 e77 ?_
          refine zA_ld rfl rfl rfl ?_
          refine zA_st (st' := [zJ (x64.toInt64), zJ v76]) rfl rfl rfl rfl ?_
          refine zA_st (st' := [zI (lg_cmp v76 (x64.toInt64))]) rfl rfl rfl rfl ?_
          rcases zite_e H with ⟨c78, H⟩ | ⟨c78, H⟩
          · refine zA_brT (c := (lg_cmp v76 (x64.toInt64)) = 0) rfl rfl rfl c78 ?_
            refine zA_tr (L := [some (zrv x0), some (zrv x1), some (zrv x2), some (zrv x3), some (zrv x4), some (zI x5), none, none, none]) rfl rfl ?_
            refine zA_go rfl rfl ?_
            exact zA_tr (L := [some (zrv x0), some (zrv x1), some (zrv x2), some (zrv x3), some (zrv x4), some (zI x5), none, none, none]) rfl rfl (zmS291_2349 hk16 _ _ _ _ _ _ _ _ _ H)
          · refine zA_brF (c := (lg_cmp v76 (x64.toInt64)) = 0) rfl rfl rfl c78 ?_
            refine zA_push rfl rfl zkk7 ?_
            cases H
            exact zA_ret rfl (zret_Z (by decide))
        · refine zA_brT' (c := x40 = 0) rfl rfl rfl c68 ?_
          refine zA_tr (L := [some (zrv x0), some (zrv x1), some (zrv x2), some (zrv x3), some (zrv x4), some (zI x5), none, none, none]) rfl rfl ?_
          refine zA_go rfl rfl ?_
          exact zA_tr (L := [some (zrv x0), some (zrv x1), some (zrv x2), some (zrv x3), some (zrv x4), some (zI x5), none, none, none]) rfl rfl (zmS291_2349 hk16 _ _ _ _ _ _ _ _ _ H)
      · refine zA_brF (c := x66 = x40) rfl rfl rfl c67 ?_
        refine zA_push rfl rfl zkk7 ?_
        cases H
        exact zA_ret rfl (zret_Z (by decide))
    · cases H
      exact zA_callX (as := [zrv x2]) (st' := []) rfl rfl (zrcv_Q e61 c62) rfl (zmE137 _) rfl rfl rfl (zmS137 C)
  · cases H
    exact zA_callX (as := [zrv x2, zI v48, zI v57]) (st' := []) rfl rfl (zrcv_Q e61 c62) rfl (zmE201 _ _ _) rfl rfl rfl (zmS201 C)
def zm291_978 (k16 : zq → zq → zq → zq → zq → Int32 → zH → zRs Int32) (x0 : zq) (x1 : zq) (x2 : zq) (x3 : zq) (x4 : zq) (x5 : Int32) (h : zH) : zRs Int32 :=
  zri x0 (x5 + (1 : Int32)) h fun v28 =>
  zri x0 (x5 + (2 : Int32)) h fun v37 =>
  zb2 (zm262 x1 v28 v37 x3 h) fun x40 h39 =>
  zri x0 (x5 + (1 : Int32)) h39 fun v48 =>
  zri x0 (x5 + (2 : Int32)) h39 fun v57 =>
  zob 12 x2 fun p59 i60 =>
  zb (zm200 x2 v48 v57 h39) fun x64 h63 =>
  zb (zm137 x2 h63) fun x66 h65 =>
  if x66 = x40 then
    if x40 = 0 then
      zrj x3 (0 : Int32) h65 fun v76 =>
      if (lg_cmp v76 (x64.toInt64)) = 0 then
        zm291_2349 k16 x0 x1 x2 x3 x4 x5 h65
      else
        some (.inl (0 : Int32), h65)
    else
      zm291_2349 k16 x0 x1 x2 x3 x4 x5 h65
  else
    some (.inl (0 : Int32), h65)
theorem zmS291_978 {k16 : zq → zq → zq → zq → zq → Int32 → zH → zRs Int32} (hk16 : ∀ (x0 : zq) (x1 : zq) (x2 : zq) (x3 : zq) (x4 : zq) (x5 : Int32) (h : zH) (r : Int32 ⊕ Nat) (h' : zH), k16 x0 x1 x2 x3 x4 x5 h = some (r, h') → zAt 291 16 [some (zrv x0), some (zrv x1), some (zrv x2), some (zrv x3), some (zrv x4), some (zI x5), none, none, none] [] h (zoI r) h') : ∀ (x0 : zq) (x1 : zq) (x2 : zq) (x3 : zq) (x4 : zq) (x5 : Int32) (h : zH) (r : Int32 ⊕ Nat) (h' : zH), zm291_978 k16 x0 x1 x2 x3 x4 x5 h = some (r, h') → zAt 291 978 [some (zrv x0), some (zrv x1), some (zrv x2), some (zrv x3), some (zrv x4), some (zI x5), none, none, none] [] h (zoI r) h' := by
  intro x0 x1 x2 x3 x4 x5 h r h' H
  unfold zm291_978 at H
  refine zA_aldn rfl rfl rfl ?_
  refine zA_aldn rfl rfl rfl ?_
  refine zA_ld rfl rfl rfl ?_
  refine zA_push rfl rfl zkk5 ?_
  refine zA_st (st' := [zI (x5 + (1 : Int32)), zrv x0, zrv x1]) rfl rfl rfl rfl ?_
  obtain ⟨p21, i22, j23, v28, e24, c25, c26, e27, e29, H⟩ := zri_e H
  refine zA_ial rfl rfl e24 c25 c26 e27 e29 ?_
  refine zA_aldn rfl rfl rfl ?_
  refine zA_ld rfl rfl rfl ?_
  refine zA_push rfl rfl zkk23 ?_
  refine zA_st (st' := [zI (x5 + (2 : Int32)), zrv x0, zI v28, zrv x1]) rfl rfl rfl rfl ?_
  obtain ⟨p30, i31, j32, v37, e33, c34, c35, e36, e38, H⟩ := zri_e H
  refine zA_ial rfl rfl e33 c34 c35 e36 e38 ?_
  refine zA_aldn rfl rfl rfl ?_
  obtain ⟨x40, h39, C, H⟩ := zb2_e H
  refine zA_callV (as := [zrv x1, zI v28, zI v37, zrv x3]) (st' := []) rfl rfl rfl rfl rfl (zmE262 _ _ _ _) rfl (zmS262 C) ?_
  refine zA_ist2 rfl rfl rfl (zset1 (L' := [some (zrv x0), some (zrv x1), some (zrv x2), some (zrv x3), some (zrv x4), some (zI x5), some (zI x40), none, none]) rfl rfl (zpcV rfl rfl)) ?_
  refine zA_aldn rfl rfl rfl ?_
  refine zA_aldn rfl rfl rfl ?_
  refine zA_ld rfl rfl rfl ?_
  refine zA_push rfl rfl zkk5 ?_
  refine zA_st (st' := [zI (x5 + (1 : Int32)), zrv x0, zrv x2]) rfl rfl rfl rfl ?_
  obtain ⟨p41, i42, j43, v48, e44, c45, c46, e47, e49, H⟩ := zri_e H
  refine zA_ial rfl rfl e44 c45 c46 e47 e49 ?_
  refine zA_aldn rfl rfl rfl ?_
  refine zA_ld rfl rfl rfl ?_
  refine zA_push rfl rfl zkk23 ?_
  refine zA_st (st' := [zI (x5 + (2 : Int32)), zrv x0, zI v48, zrv x2]) rfl rfl rfl rfl ?_
  obtain ⟨p50, i51, j52, v57, e53, c54, c55, e56, e58, H⟩ := zri_e H
  refine zA_ial rfl rfl e53 c54 c55 e56 e58 ?_
  obtain ⟨p59, i60, e61, c62, H⟩ := zob_e H
  rcases zb_e H with ⟨x64, h63, C, H⟩ | ⟨E, h63, C, H⟩
  · refine zA_callV (as := [zrv x2, zI v48, zI v57]) (st' := []) rfl rfl rfl (zrcv_Q e61 c62) rfl (zmE200 _ _ _) rfl (zmS200 C) ?_
    refine zA_ist2 rfl rfl rfl (zset1 (L' := [some (zrv x0), some (zrv x1), some (zrv x2), some (zrv x3), some (zrv x4), some (zI x5), some (zI x40), some (zI x64), none]) rfl rfl (zpcV rfl rfl)) ?_
    refine zA_aldn rfl rfl rfl ?_
    rcases zb_e H with ⟨x66, h65, C, H⟩ | ⟨E, h65, C, H⟩
    · refine zA_callV (as := [zrv x2]) (st' := []) rfl rfl rfl (zrcv_Q e61 c62) rfl (zmE137 _) rfl (zmS137 C) ?_
      refine zA_ld rfl rfl rfl ?_
      rcases zite_e H with ⟨c67, H⟩ | ⟨c67, H⟩
      · refine zA_brT (c := x66 = x40) rfl rfl rfl c67 ?_
        refine zA_ld rfl rfl rfl ?_
        rcases zite_e H with ⟨c68, H⟩ | ⟨c68, H⟩
        · refine zA_brF' (c := x40 = 0) rfl rfl rfl c68 ?_
          refine zA_aldn rfl rfl rfl ?_
          refine zA_push rfl rfl zkk7 ?_
          obtain ⟨p69, i70, j71, v76, e72, c73, c74, e75, e77, H⟩ := zrj_e H
          refine zA_lal rfl rfl e72 c73 c74 e75 e77 ?_
          refine zA_ld rfl rfl rfl ?_
          refine zA_st (st' := [zJ (x64.toInt64), zJ v76]) rfl rfl rfl rfl ?_
          refine zA_st (st' := [zI (lg_cmp v76 (x64.toInt64))]) rfl rfl rfl rfl ?_
          rcases zite_e H with ⟨c78, H⟩ | ⟨c78, H⟩
          · refine zA_brT (c := (lg_cmp v76 (x64.toInt64)) = 0) rfl rfl rfl c78 ?_
            refine zA_tr (L := [some (zrv x0), some (zrv x1), some (zrv x2), some (zrv x3), some (zrv x4), some (zI x5), none, none, none]) rfl rfl ?_
            refine zA_go rfl rfl ?_
            exact zA_tr (L := [some (zrv x0), some (zrv x1), some (zrv x2), some (zrv x3), some (zrv x4), some (zI x5), none, none, none]) rfl rfl (zmS291_2349 hk16 _ _ _ _ _ _ _ _ _ H)
          · refine zA_brF (c := (lg_cmp v76 (x64.toInt64)) = 0) rfl rfl rfl c78 ?_
            refine zA_push rfl rfl zkk7 ?_
            cases H
            exact zA_ret rfl (zret_Z (by decide))
        · refine zA_brT' (c := x40 = 0) rfl rfl rfl c68 ?_
          refine zA_tr (L := [some (zrv x0), some (zrv x1), some (zrv x2), some (zrv x3), some (zrv x4), some (zI x5), none, none, none]) rfl rfl ?_
          refine zA_go rfl rfl ?_
          exact zA_tr (L := [some (zrv x0), some (zrv x1), some (zrv x2), some (zrv x3), some (zrv x4), some (zI x5), none, none, none]) rfl rfl (zmS291_2349 hk16 _ _ _ _ _ _ _ _ _ H)
      · refine zA_brF (c := x66 = x40) rfl rfl rfl c67 ?_
        refine zA_push rfl rfl zkk7 ?_
        cases H
        exact zA_ret rfl (zret_Z (by decide))
    · cases H
      exact zA_callX (as := [zrv x2]) (st' := []) rfl rfl (zrcv_Q e61 c62) rfl (zmE137 _) rfl rfl rfl (zmS137 C)
  · cases H
    exact zA_callX (as := [zrv x2, zI v48, zI v57]) (st' := []) rfl rfl (zrcv_Q e61 c62) rfl (zmE200 _ _ _) rfl rfl rfl (zmS200 C)
def zm291_933 (k16 : zq → zq → zq → zq → zq → Int32 → zH → zRs Int32) (x0 : zq) (x1 : zq) (x2 : zq) (x3 : zq) (x4 : zq) (x5 : Int32) (h : zH) : zRs Int32 :=
  zri x0 (x5 + (1 : Int32)) h fun v28 =>
  zri x0 (x5 + (2 : Int32)) h fun v37 =>
  zb2 (zm261 x1 v28 v37 x3 h) fun x40 h39 =>
  zri x0 (x5 + (1 : Int32)) h39 fun v48 =>
  zri x0 (x5 + (2 : Int32)) h39 fun v57 =>
  zob 12 x2 fun p59 i60 =>
  zb (zm199 x2 v48 v57 h39) fun x64 h63 =>
  zb (zm137 x2 h63) fun x66 h65 =>
  if x66 = x40 then
    if x40 = 0 then
      zrj x3 (0 : Int32) h65 fun v76 =>
      if (lg_cmp v76 (x64.toInt64)) = 0 then
        zm291_2349 k16 x0 x1 x2 x3 x4 x5 h65
      else
        some (.inl (0 : Int32), h65)
    else
      zm291_2349 k16 x0 x1 x2 x3 x4 x5 h65
  else
    some (.inl (0 : Int32), h65)
theorem zmS291_933 {k16 : zq → zq → zq → zq → zq → Int32 → zH → zRs Int32} (hk16 : ∀ (x0 : zq) (x1 : zq) (x2 : zq) (x3 : zq) (x4 : zq) (x5 : Int32) (h : zH) (r : Int32 ⊕ Nat) (h' : zH), k16 x0 x1 x2 x3 x4 x5 h = some (r, h') → zAt 291 16 [some (zrv x0), some (zrv x1), some (zrv x2), some (zrv x3), some (zrv x4), some (zI x5), none, none, none] [] h (zoI r) h') : ∀ (x0 : zq) (x1 : zq) (x2 : zq) (x3 : zq) (x4 : zq) (x5 : Int32) (h : zH) (r : Int32 ⊕ Nat) (h' : zH), zm291_933 k16 x0 x1 x2 x3 x4 x5 h = some (r, h') → zAt 291 933 [some (zrv x0), some (zrv x1), some (zrv x2), some (zrv x3), some (zrv x4), some (zI x5), none, none, none] [] h (zoI r) h' := by
  intro x0 x1 x2 x3 x4 x5 h r h' H
  unfold zm291_933 at H
  refine zA_aldn rfl rfl rfl ?_
  refine zA_aldn rfl rfl rfl ?_
  refine zA_ld rfl rfl rfl ?_
  refine zA_push rfl rfl zkk5 ?_
  refine zA_st (st' := [zI (x5 + (1 : Int32)), zrv x0, zrv x1]) rfl rfl rfl rfl ?_
  obtain ⟨p21, i22, j23, v28, e24, c25, c26, e27, e29, H⟩ := zri_e H
  refine zA_ial rfl rfl e24 c25 c26 e27 e29 ?_
  refine zA_aldn rfl rfl rfl ?_
  refine zA_ld rfl rfl rfl ?_
  refine zA_push rfl rfl zkk23 ?_
  refine zA_st (st' := [zI (x5 + (2 : Int32)), zrv x0, zI v28, zrv x1]) rfl rfl rfl rfl ?_
  obtain ⟨p30, i31, j32, v37, e33, c34, c35, e36, e38, H⟩ := zri_e H
  refine zA_ial rfl rfl e33 c34 c35 e36 e38 ?_
  refine zA_aldn rfl rfl rfl ?_
  obtain ⟨x40, h39, C, H⟩ := zb2_e H
  refine zA_callV (as := [zrv x1, zI v28, zI v37, zrv x3]) (st' := []) rfl rfl rfl rfl rfl (zmE261 _ _ _ _) rfl (zmS261 C) ?_
  refine zA_ist2 rfl rfl rfl (zset1 (L' := [some (zrv x0), some (zrv x1), some (zrv x2), some (zrv x3), some (zrv x4), some (zI x5), some (zI x40), none, none]) rfl rfl (zpcV rfl rfl)) ?_
  refine zA_aldn rfl rfl rfl ?_
  refine zA_aldn rfl rfl rfl ?_
  refine zA_ld rfl rfl rfl ?_
  refine zA_push rfl rfl zkk5 ?_
  refine zA_st (st' := [zI (x5 + (1 : Int32)), zrv x0, zrv x2]) rfl rfl rfl rfl ?_
  obtain ⟨p41, i42, j43, v48, e44, c45, c46, e47, e49, H⟩ := zri_e H
  refine zA_ial rfl rfl e44 c45 c46 e47 e49 ?_
  refine zA_aldn rfl rfl rfl ?_
  refine zA_ld rfl rfl rfl ?_
  refine zA_push rfl rfl zkk23 ?_
  refine zA_st (st' := [zI (x5 + (2 : Int32)), zrv x0, zI v48, zrv x2]) rfl rfl rfl rfl ?_
  obtain ⟨p50, i51, j52, v57, e53, c54, c55, e56, e58, H⟩ := zri_e H
  refine zA_ial rfl rfl e53 c54 c55 e56 e58 ?_
  obtain ⟨p59, i60, e61, c62, H⟩ := zob_e H
  rcases zb_e H with ⟨x64, h63, C, H⟩ | ⟨E, h63, C, H⟩
  · refine zA_callV (as := [zrv x2, zI v48, zI v57]) (st' := []) rfl rfl rfl (zrcv_Q e61 c62) rfl (zmE199 _ _ _) rfl (zmS199 C) ?_
    refine zA_ist2 rfl rfl rfl (zset1 (L' := [some (zrv x0), some (zrv x1), some (zrv x2), some (zrv x3), some (zrv x4), some (zI x5), some (zI x40), some (zI x64), none]) rfl rfl (zpcV rfl rfl)) ?_
    refine zA_aldn rfl rfl rfl ?_
    rcases zb_e H with ⟨x66, h65, C, H⟩ | ⟨E, h65, C, H⟩
    · refine zA_callV (as := [zrv x2]) (st' := []) rfl rfl rfl (zrcv_Q e61 c62) rfl (zmE137 _) rfl (zmS137 C) ?_
      refine zA_ld rfl rfl rfl ?_
      rcases zite_e H with ⟨c67, H⟩ | ⟨c67, H⟩
      · refine zA_brT (c := x66 = x40) rfl rfl rfl c67 ?_
        refine zA_ld rfl rfl rfl ?_
        rcases zite_e H with ⟨c68, H⟩ | ⟨c68, H⟩
        · refine zA_brF' (c := x40 = 0) rfl rfl rfl c68 ?_
          refine zA_aldn rfl rfl rfl ?_
          refine zA_push rfl rfl zkk7 ?_
          obtain ⟨p69, i70, j71, v76, e72, c73, c74, e75, e77, H⟩ := zrj_e H
          refine zA_lal rfl rfl e72 c73 c74 e75 e77 ?_
          refine zA_ld rfl rfl rfl ?_
          refine zA_st (st' := [zJ (x64.toInt64), zJ v76]) rfl rfl rfl rfl ?_
          refine zA_st (st' := [zI (lg_cmp v76 (x64.toInt64))]) rfl rfl rfl rfl ?_
          rcases zite_e H with ⟨c78, H⟩ | ⟨c78, H⟩
          · refine zA_brT (c := (lg_cmp v76 (x64.toInt64)) = 0) rfl rfl rfl c78 ?_
            refine zA_tr (L := [some (zrv x0), some (zrv x1), some (zrv x2), some (zrv x3), some (zrv x4), some (zI x5), none, none, none]) rfl rfl ?_
            refine zA_go rfl rfl ?_
            exact zA_tr (L := [some (zrv x0), some (zrv x1), some (zrv x2), some (zrv x3), some (zrv x4), some (zI x5), none, none, none]) rfl rfl (zmS291_2349 hk16 _ _ _ _ _ _ _ _ _ H)
          · refine zA_brF (c := (lg_cmp v76 (x64.toInt64)) = 0) rfl rfl rfl c78 ?_
            refine zA_push rfl rfl zkk7 ?_
            cases H
            exact zA_ret rfl (zret_Z (by decide))
        · refine zA_brT' (c := x40 = 0) rfl rfl rfl c68 ?_
          refine zA_tr (L := [some (zrv x0), some (zrv x1), some (zrv x2), some (zrv x3), some (zrv x4), some (zI x5), none, none, none]) rfl rfl ?_
          refine zA_go rfl rfl ?_
          exact zA_tr (L := [some (zrv x0), some (zrv x1), some (zrv x2), some (zrv x3), some (zrv x4), some (zI x5), none, none, none]) rfl rfl (zmS291_2349 hk16 _ _ _ _ _ _ _ _ _ H)
      · refine zA_brF (c := x66 = x40) rfl rfl rfl c67 ?_
        refine zA_push rfl rfl zkk7 ?_
        cases H
        exact zA_ret rfl (zret_Z (by decide))
    · cases H
      exact zA_callX (as := [zrv x2]) (st' := []) rfl rfl (zrcv_Q e61 c62) rfl (zmE137 _) rfl rfl rfl (zmS137 C)
  · cases H
    exact zA_callX (as := [zrv x2, zI v48, zI v57]) (st' := []) rfl rfl (zrcv_Q e61 c62) rfl (zmE199 _ _ _) rfl rfl rfl (zmS199 C)
def zm291_888 (k16 : zq → zq → zq → zq → zq → Int32 → zH → zRs Int32) (x0 : zq) (x1 : zq) (x2 : zq) (x3 : zq) (x4 : zq) (x5 : Int32) (h : zH) : zRs Int32 :=
  zri x0 (x5 + (1 : Int32)) h fun v28 =>
  zri x0 (x5 + (2 : Int32)) h fun v37 =>
  zb2 (zm260 x1 v28 v37 x3 h) fun x40 h39 =>
  zri x0 (x5 + (1 : Int32)) h39 fun v48 =>
  zri x0 (x5 + (2 : Int32)) h39 fun v57 =>
  zob 12 x2 fun p59 i60 =>
  zb (zm198 x2 v48 v57 h39) fun x64 h63 =>
  zb (zm137 x2 h63) fun x66 h65 =>
  if x66 = x40 then
    if x40 = 0 then
      zrj x3 (0 : Int32) h65 fun v76 =>
      if (lg_cmp v76 (x64.toInt64)) = 0 then
        zm291_2349 k16 x0 x1 x2 x3 x4 x5 h65
      else
        some (.inl (0 : Int32), h65)
    else
      zm291_2349 k16 x0 x1 x2 x3 x4 x5 h65
  else
    some (.inl (0 : Int32), h65)
theorem zmS291_888 {k16 : zq → zq → zq → zq → zq → Int32 → zH → zRs Int32} (hk16 : ∀ (x0 : zq) (x1 : zq) (x2 : zq) (x3 : zq) (x4 : zq) (x5 : Int32) (h : zH) (r : Int32 ⊕ Nat) (h' : zH), k16 x0 x1 x2 x3 x4 x5 h = some (r, h') → zAt 291 16 [some (zrv x0), some (zrv x1), some (zrv x2), some (zrv x3), some (zrv x4), some (zI x5), none, none, none] [] h (zoI r) h') : ∀ (x0 : zq) (x1 : zq) (x2 : zq) (x3 : zq) (x4 : zq) (x5 : Int32) (h : zH) (r : Int32 ⊕ Nat) (h' : zH), zm291_888 k16 x0 x1 x2 x3 x4 x5 h = some (r, h') → zAt 291 888 [some (zrv x0), some (zrv x1), some (zrv x2), some (zrv x3), some (zrv x4), some (zI x5), none, none, none] [] h (zoI r) h' := by
  intro x0 x1 x2 x3 x4 x5 h r h' H
  unfold zm291_888 at H
  refine zA_aldn rfl rfl rfl ?_
  refine zA_aldn rfl rfl rfl ?_
  refine zA_ld rfl rfl rfl ?_
  refine zA_push rfl rfl zkk5 ?_
  refine zA_st (st' := [zI (x5 + (1 : Int32)), zrv x0, zrv x1]) rfl rfl rfl rfl ?_
  obtain ⟨p21, i22, j23, v28, e24, c25, c26, e27, e29, H⟩ := zri_e H
  refine zA_ial rfl rfl e24 c25 c26 e27 e29 ?_
  refine zA_aldn rfl rfl rfl ?_
  refine zA_ld rfl rfl rfl ?_
  refine zA_push rfl rfl zkk23 ?_
  refine zA_st (st' := [zI (x5 + (2 : Int32)), zrv x0, zI v28, zrv x1]) rfl rfl rfl rfl ?_
  obtain ⟨p30, i31, j32, v37, e33, c34, c35, e36, e38, H⟩ := zri_e H
  refine zA_ial rfl rfl e33 c34 c35 e36 e38 ?_
  refine zA_aldn rfl rfl rfl ?_
  obtain ⟨x40, h39, C, H⟩ := zb2_e H
  refine zA_callV (as := [zrv x1, zI v28, zI v37, zrv x3]) (st' := []) rfl rfl rfl rfl rfl (zmE260 _ _ _ _) rfl (zmS260 C) ?_
  refine zA_ist2 rfl rfl rfl (zset1 (L' := [some (zrv x0), some (zrv x1), some (zrv x2), some (zrv x3), some (zrv x4), some (zI x5), some (zI x40), none, none]) rfl rfl (zpcV rfl rfl)) ?_
  refine zA_aldn rfl rfl rfl ?_
  refine zA_aldn rfl rfl rfl ?_
  refine zA_ld rfl rfl rfl ?_
  refine zA_push rfl rfl zkk5 ?_
  refine zA_st (st' := [zI (x5 + (1 : Int32)), zrv x0, zrv x2]) rfl rfl rfl rfl ?_
  obtain ⟨p41, i42, j43, v48, e44, c45, c46, e47, e49, H⟩ := zri_e H
  refine zA_ial rfl rfl e44 c45 c46 e47 e49 ?_
  refine zA_aldn rfl rfl rfl ?_
  refine zA_ld rfl rfl rfl ?_
  refine zA_push rfl rfl zkk23 ?_
  refine zA_st (st' := [zI (x5 + (2 : Int32)), zrv x0, zI v48, zrv x2]) rfl rfl rfl rfl ?_
  obtain ⟨p50, i51, j52, v57, e53, c54, c55, e56, e58, H⟩ := zri_e H
  refine zA_ial rfl rfl e53 c54 c55 e56 e58 ?_
  obtain ⟨p59, i60, e61, c62, H⟩ := zob_e H
  rcases zb_e H with ⟨x64, h63, C, H⟩ | ⟨E, h63, C, H⟩
  · refine zA_callV (as := [zrv x2, zI v48, zI v57]) (st' := []) rfl rfl rfl (zrcv_Q e61 c62) rfl (zmE198 _ _ _) rfl (zmS198 C) ?_
    refine zA_ist2 rfl rfl rfl (zset1 (L' := [some (zrv x0), some (zrv x1), some (zrv x2), some (zrv x3), some (zrv x4), some (zI x5), some (zI x40), some (zI x64), none]) rfl rfl (zpcV rfl rfl)) ?_
    refine zA_aldn rfl rfl rfl ?_
    rcases zb_e H with ⟨x66, h65, C, H⟩ | ⟨E, h65, C, H⟩
    · refine zA_callV (as := [zrv x2]) (st' := []) rfl rfl rfl (zrcv_Q e61 c62) rfl (zmE137 _) rfl (zmS137 C) ?_
      refine zA_ld rfl rfl rfl ?_
      rcases zite_e H with ⟨c67, H⟩ | ⟨c67, H⟩
      · refine zA_brT (c := x66 = x40) rfl rfl rfl c67 ?_
        refine zA_ld rfl rfl rfl ?_
        rcases zite_e H with ⟨c68, H⟩ | ⟨c68, H⟩
        · refine zA_brF' (c := x40 = 0) rfl rfl rfl c68 ?_
          refine zA_aldn rfl rfl rfl ?_
          refine zA_push rfl rfl zkk7 ?_
          obtain ⟨p69, i70, j71, v76, e72, c73, c74, e75, e77, H⟩ := zrj_e H
          refine zA_lal rfl rfl e72 c73 c74 e75 e77 ?_
          refine zA_ld rfl rfl rfl ?_
          refine zA_st (st' := [zJ (x64.toInt64), zJ v76]) rfl rfl rfl rfl ?_
          refine zA_st (st' := [zI (lg_cmp v76 (x64.toInt64))]) rfl rfl rfl rfl ?_
          rcases zite_e H with ⟨c78, H⟩ | ⟨c78, H⟩
          · refine zA_brT (c := (lg_cmp v76 (x64.toInt64)) = 0) rfl rfl rfl c78 ?_
            refine zA_tr (L := [some (zrv x0), some (zrv x1), some (zrv x2), some (zrv x3), some (zrv x4), some (zI x5), none, none, none]) rfl rfl ?_
            refine zA_go rfl rfl ?_
            exact zA_tr (L := [some (zrv x0), some (zrv x1), some (zrv x2), some (zrv x3), some (zrv x4), some (zI x5), none, none, none]) rfl rfl (zmS291_2349 hk16 _ _ _ _ _ _ _ _ _ H)
          · refine zA_brF (c := (lg_cmp v76 (x64.toInt64)) = 0) rfl rfl rfl c78 ?_
            refine zA_push rfl rfl zkk7 ?_
            cases H
            exact zA_ret rfl (zret_Z (by decide))
        · refine zA_brT' (c := x40 = 0) rfl rfl rfl c68 ?_
          refine zA_tr (L := [some (zrv x0), some (zrv x1), some (zrv x2), some (zrv x3), some (zrv x4), some (zI x5), none, none, none]) rfl rfl ?_
          refine zA_go rfl rfl ?_
          exact zA_tr (L := [some (zrv x0), some (zrv x1), some (zrv x2), some (zrv x3), some (zrv x4), some (zI x5), none, none, none]) rfl rfl (zmS291_2349 hk16 _ _ _ _ _ _ _ _ _ H)
      · refine zA_brF (c := x66 = x40) rfl rfl rfl c67 ?_
        refine zA_push rfl rfl zkk7 ?_
        cases H
        exact zA_ret rfl (zret_Z (by decide))
    · cases H
      exact zA_callX (as := [zrv x2]) (st' := []) rfl rfl (zrcv_Q e61 c62) rfl (zmE137 _) rfl rfl rfl (zmS137 C)
  · cases H
    exact zA_callX (as := [zrv x2, zI v48, zI v57]) (st' := []) rfl rfl (zrcv_Q e61 c62) rfl (zmE198 _ _ _) rfl rfl rfl (zmS198 C)
def zm291_843 (k16 : zq → zq → zq → zq → zq → Int32 → zH → zRs Int32) (x0 : zq) (x1 : zq) (x2 : zq) (x3 : zq) (x4 : zq) (x5 : Int32) (h : zH) : zRs Int32 :=
  zri x0 (x5 + (1 : Int32)) h fun v28 =>
  zri x0 (x5 + (2 : Int32)) h fun v37 =>
  zb2 (zm259 x1 v28 v37 x3 h) fun x40 h39 =>
  zri x0 (x5 + (1 : Int32)) h39 fun v48 =>
  zri x0 (x5 + (2 : Int32)) h39 fun v57 =>
  zob 12 x2 fun p59 i60 =>
  zb (zm197 x2 v48 v57 h39) fun x64 h63 =>
  zb (zm137 x2 h63) fun x66 h65 =>
  if x66 = x40 then
    if x40 = 0 then
      zrj x3 (0 : Int32) h65 fun v76 =>
      if (lg_cmp v76 (x64.toInt64)) = 0 then
        zm291_2349 k16 x0 x1 x2 x3 x4 x5 h65
      else
        some (.inl (0 : Int32), h65)
    else
      zm291_2349 k16 x0 x1 x2 x3 x4 x5 h65
  else
    some (.inl (0 : Int32), h65)
theorem zmS291_843 {k16 : zq → zq → zq → zq → zq → Int32 → zH → zRs Int32} (hk16 : ∀ (x0 : zq) (x1 : zq) (x2 : zq) (x3 : zq) (x4 : zq) (x5 : Int32) (h : zH) (r : Int32 ⊕ Nat) (h' : zH), k16 x0 x1 x2 x3 x4 x5 h = some (r, h') → zAt 291 16 [some (zrv x0), some (zrv x1), some (zrv x2), some (zrv x3), some (zrv x4), some (zI x5), none, none, none] [] h (zoI r) h') : ∀ (x0 : zq) (x1 : zq) (x2 : zq) (x3 : zq) (x4 : zq) (x5 : Int32) (h : zH) (r : Int32 ⊕ Nat) (h' : zH), zm291_843 k16 x0 x1 x2 x3 x4 x5 h = some (r, h') → zAt 291 843 [some (zrv x0), some (zrv x1), some (zrv x2), some (zrv x3), some (zrv x4), some (zI x5), none, none, none] [] h (zoI r) h' := by
  intro x0 x1 x2 x3 x4 x5 h r h' H
  unfold zm291_843 at H
  refine zA_aldn rfl rfl rfl ?_
  refine zA_aldn rfl rfl rfl ?_
  refine zA_ld rfl rfl rfl ?_
  refine zA_push rfl rfl zkk5 ?_
  refine zA_st (st' := [zI (x5 + (1 : Int32)), zrv x0, zrv x1]) rfl rfl rfl rfl ?_
  obtain ⟨p21, i22, j23, v28, e24, c25, c26, e27, e29, H⟩ := zri_e H
  refine zA_ial rfl rfl e24 c25 c26 e27 e29 ?_
  refine zA_aldn rfl rfl rfl ?_
  refine zA_ld rfl rfl rfl ?_
  refine zA_push rfl rfl zkk23 ?_
  refine zA_st (st' := [zI (x5 + (2 : Int32)), zrv x0, zI v28, zrv x1]) rfl rfl rfl rfl ?_
  obtain ⟨p30, i31, j32, v37, e33, c34, c35, e36, e38, H⟩ := zri_e H
  refine zA_ial rfl rfl e33 c34 c35 e36 e38 ?_
  refine zA_aldn rfl rfl rfl ?_
  obtain ⟨x40, h39, C, H⟩ := zb2_e H
  refine zA_callV (as := [zrv x1, zI v28, zI v37, zrv x3]) (st' := []) rfl rfl rfl rfl rfl (zmE259 _ _ _ _) rfl (zmS259 C) ?_
  refine zA_ist2 rfl rfl rfl (zset1 (L' := [some (zrv x0), some (zrv x1), some (zrv x2), some (zrv x3), some (zrv x4), some (zI x5), some (zI x40), none, none]) rfl rfl (zpcV rfl rfl)) ?_
  refine zA_aldn rfl rfl rfl ?_
  refine zA_aldn rfl rfl rfl ?_
  refine zA_ld rfl rfl rfl ?_
  refine zA_push rfl rfl zkk5 ?_
  refine zA_st (st' := [zI (x5 + (1 : Int32)), zrv x0, zrv x2]) rfl rfl rfl rfl ?_
  obtain ⟨p41, i42, j43, v48, e44, c45, c46, e47, e49, H⟩ := zri_e H
  refine zA_ial rfl rfl e44 c45 c46 e47 e49 ?_
  refine zA_aldn rfl rfl rfl ?_
  refine zA_ld rfl rfl rfl ?_
  refine zA_push rfl rfl zkk23 ?_
  refine zA_st (st' := [zI (x5 + (2 : Int32)), zrv x0, zI v48, zrv x2]) rfl rfl rfl rfl ?_
  obtain ⟨p50, i51, j52, v57, e53, c54, c55, e56, e58, H⟩ := zri_e H
  refine zA_ial rfl rfl e53 c54 c55 e56 e58 ?_
  obtain ⟨p59, i60, e61, c62, H⟩ := zob_e H
  rcases zb_e H with ⟨x64, h63, C, H⟩ | ⟨E, h63, C, H⟩
  · refine zA_callV (as := [zrv x2, zI v48, zI v57]) (st' := []) rfl rfl rfl (zrcv_Q e61 c62) rfl (zmE197 _ _ _) rfl (zmS197 C) ?_
    refine zA_ist2 rfl rfl rfl (zset1 (L' := [some (zrv x0), some (zrv x1), some (zrv x2), some (zrv x3), some (zrv x4), some (zI x5), some (zI x40), some (zI x64), none]) rfl rfl (zpcV rfl rfl)) ?_
    refine zA_aldn rfl rfl rfl ?_
    rcases zb_e H with ⟨x66, h65, C, H⟩ | ⟨E, h65, C, H⟩
    · refine zA_callV (as := [zrv x2]) (st' := []) rfl rfl rfl (zrcv_Q e61 c62) rfl (zmE137 _) rfl (zmS137 C) ?_
      refine zA_ld rfl rfl rfl ?_
      rcases zite_e H with ⟨c67, H⟩ | ⟨c67, H⟩
      · refine zA_brT (c := x66 = x40) rfl rfl rfl c67 ?_
        refine zA_ld rfl rfl rfl ?_
        rcases zite_e H with ⟨c68, H⟩ | ⟨c68, H⟩
        · refine zA_brF' (c := x40 = 0) rfl rfl rfl c68 ?_
          refine zA_aldn rfl rfl rfl ?_
          refine zA_push rfl rfl zkk7 ?_
          obtain ⟨p69, i70, j71, v76, e72, c73, c74, e75, e77, H⟩ := zrj_e H
          refine zA_lal rfl rfl e72 c73 c74 e75 e77 ?_
          refine zA_ld rfl rfl rfl ?_
          refine zA_st (st' := [zJ (x64.toInt64), zJ v76]) rfl rfl rfl rfl ?_
          refine zA_st (st' := [zI (lg_cmp v76 (x64.toInt64))]) rfl rfl rfl rfl ?_
          rcases zite_e H with ⟨c78, H⟩ | ⟨c78, H⟩
          · refine zA_brT (c := (lg_cmp v76 (x64.toInt64)) = 0) rfl rfl rfl c78 ?_
            refine zA_tr (L := [some (zrv x0), some (zrv x1), some (zrv x2), some (zrv x3), some (zrv x4), some (zI x5), none, none, none]) rfl rfl ?_
            refine zA_go rfl rfl ?_
            exact zA_tr (L := [some (zrv x0), some (zrv x1), some (zrv x2), some (zrv x3), some (zrv x4), some (zI x5), none, none, none]) rfl rfl (zmS291_2349 hk16 _ _ _ _ _ _ _ _ _ H)
          · refine zA_brF (c := (lg_cmp v76 (x64.toInt64)) = 0) rfl rfl rfl c78 ?_
            refine zA_push rfl rfl zkk7 ?_
            cases H
            exact zA_ret rfl (zret_Z (by decide))
        · refine zA_brT' (c := x40 = 0) rfl rfl rfl c68 ?_
          refine zA_tr (L := [some (zrv x0), some (zrv x1), some (zrv x2), some (zrv x3), some (zrv x4), some (zI x5), none, none, none]) rfl rfl ?_
          refine zA_go rfl rfl ?_
          exact zA_tr (L := [some (zrv x0), some (zrv x1), some (zrv x2), some (zrv x3), some (zrv x4), some (zI x5), none, none, none]) rfl rfl (zmS291_2349 hk16 _ _ _ _ _ _ _ _ _ H)
      · refine zA_brF (c := x66 = x40) rfl rfl rfl c67 ?_
        refine zA_push rfl rfl zkk7 ?_
        cases H
        exact zA_ret rfl (zret_Z (by decide))
    · cases H
      exact zA_callX (as := [zrv x2]) (st' := []) rfl rfl (zrcv_Q e61 c62) rfl (zmE137 _) rfl rfl rfl (zmS137 C)
  · cases H
    exact zA_callX (as := [zrv x2, zI v48, zI v57]) (st' := []) rfl rfl (zrcv_Q e61 c62) rfl (zmE197 _ _ _) rfl rfl rfl (zmS197 C)
def zm291_798 (k16 : zq → zq → zq → zq → zq → Int32 → zH → zRs Int32) (x0 : zq) (x1 : zq) (x2 : zq) (x3 : zq) (x4 : zq) (x5 : Int32) (h : zH) : zRs Int32 :=
  zri x0 (x5 + (1 : Int32)) h fun v28 =>
  zri x0 (x5 + (2 : Int32)) h fun v37 =>
  zb2 (zm258 x1 v28 v37 x3 h) fun x40 h39 =>
  zri x0 (x5 + (1 : Int32)) h39 fun v48 =>
  zri x0 (x5 + (2 : Int32)) h39 fun v57 =>
  zob 12 x2 fun p59 i60 =>
  zb (zm194 x2 v48 v57 h39) fun x64 h63 =>
  zb (zm137 x2 h63) fun x66 h65 =>
  if x66 = x40 then
    if x40 = 0 then
      zrj x3 (0 : Int32) h65 fun v76 =>
      if (lg_cmp v76 (x64.toInt64)) = 0 then
        zm291_2349 k16 x0 x1 x2 x3 x4 x5 h65
      else
        some (.inl (0 : Int32), h65)
    else
      zm291_2349 k16 x0 x1 x2 x3 x4 x5 h65
  else
    some (.inl (0 : Int32), h65)
theorem zmS291_798 {k16 : zq → zq → zq → zq → zq → Int32 → zH → zRs Int32} (hk16 : ∀ (x0 : zq) (x1 : zq) (x2 : zq) (x3 : zq) (x4 : zq) (x5 : Int32) (h : zH) (r : Int32 ⊕ Nat) (h' : zH), k16 x0 x1 x2 x3 x4 x5 h = some (r, h') → zAt 291 16 [some (zrv x0), some (zrv x1), some (zrv x2), some (zrv x3), some (zrv x4), some (zI x5), none, none, none] [] h (zoI r) h') : ∀ (x0 : zq) (x1 : zq) (x2 : zq) (x3 : zq) (x4 : zq) (x5 : Int32) (h : zH) (r : Int32 ⊕ Nat) (h' : zH), zm291_798 k16 x0 x1 x2 x3 x4 x5 h = some (r, h') → zAt 291 798 [some (zrv x0), some (zrv x1), some (zrv x2), some (zrv x3), some (zrv x4), some (zI x5), none, none, none] [] h (zoI r) h' := by
  intro x0 x1 x2 x3 x4 x5 h r h' H
  unfold zm291_798 at H
  refine zA_aldn rfl rfl rfl ?_
  refine zA_aldn rfl rfl rfl ?_
  refine zA_ld rfl rfl rfl ?_
  refine zA_push rfl rfl zkk5 ?_
  refine zA_st (st' := [zI (x5 + (1 : Int32)), zrv x0, zrv x1]) rfl rfl rfl rfl ?_
  obtain ⟨p21, i22, j23, v28, e24, c25, c26, e27, e29, H⟩ := zri_e H
  refine zA_ial rfl rfl e24 c25 c26 e27 e29 ?_
  refine zA_aldn rfl rfl rfl ?_
  refine zA_ld rfl rfl rfl ?_
  refine zA_push rfl rfl zkk23 ?_
  refine zA_st (st' := [zI (x5 + (2 : Int32)), zrv x0, zI v28, zrv x1]) rfl rfl rfl rfl ?_
  obtain ⟨p30, i31, j32, v37, e33, c34, c35, e36, e38, H⟩ := zri_e H
  refine zA_ial rfl rfl e33 c34 c35 e36 e38 ?_
  refine zA_aldn rfl rfl rfl ?_
  obtain ⟨x40, h39, C, H⟩ := zb2_e H
  refine zA_callV (as := [zrv x1, zI v28, zI v37, zrv x3]) (st' := []) rfl rfl rfl rfl rfl (zmE258 _ _ _ _) rfl (zmS258 C) ?_
  refine zA_ist2 rfl rfl rfl (zset1 (L' := [some (zrv x0), some (zrv x1), some (zrv x2), some (zrv x3), some (zrv x4), some (zI x5), some (zI x40), none, none]) rfl rfl (zpcV rfl rfl)) ?_
  refine zA_aldn rfl rfl rfl ?_
  refine zA_aldn rfl rfl rfl ?_
  refine zA_ld rfl rfl rfl ?_
  refine zA_push rfl rfl zkk5 ?_
  refine zA_st (st' := [zI (x5 + (1 : Int32)), zrv x0, zrv x2]) rfl rfl rfl rfl ?_
  obtain ⟨p41, i42, j43, v48, e44, c45, c46, e47, e49, H⟩ := zri_e H
  refine zA_ial rfl rfl e44 c45 c46 e47 e49 ?_
  refine zA_aldn rfl rfl rfl ?_
  refine zA_ld rfl rfl rfl ?_
  refine zA_push rfl rfl zkk23 ?_
  refine zA_st (st' := [zI (x5 + (2 : Int32)), zrv x0, zI v48, zrv x2]) rfl rfl rfl rfl ?_
  obtain ⟨p50, i51, j52, v57, e53, c54, c55, e56, e58, H⟩ := zri_e H
  refine zA_ial rfl rfl e53 c54 c55 e56 e58 ?_
  obtain ⟨p59, i60, e61, c62, H⟩ := zob_e H
  rcases zb_e H with ⟨x64, h63, C, H⟩ | ⟨E, h63, C, H⟩
  · refine zA_callV (as := [zrv x2, zI v48, zI v57]) (st' := []) rfl rfl rfl (zrcv_Q e61 c62) rfl (zmE194 _ _ _) rfl (zmS194 C) ?_
    refine zA_ist2 rfl rfl rfl (zset1 (L' := [some (zrv x0), some (zrv x1), some (zrv x2), some (zrv x3), some (zrv x4), some (zI x5), some (zI x40), some (zI x64), none]) rfl rfl (zpcV rfl rfl)) ?_
    refine zA_aldn rfl rfl rfl ?_
    rcases zb_e H with ⟨x66, h65, C, H⟩ | ⟨E, h65, C, H⟩
    · refine zA_callV (as := [zrv x2]) (st' := []) rfl rfl rfl (zrcv_Q e61 c62) rfl (zmE137 _) rfl (zmS137 C) ?_
      refine zA_ld rfl rfl rfl ?_
      rcases zite_e H with ⟨c67, H⟩ | ⟨c67, H⟩
      · refine zA_brT (c := x66 = x40) rfl rfl rfl c67 ?_
        refine zA_ld rfl rfl rfl ?_
        rcases zite_e H with ⟨c68, H⟩ | ⟨c68, H⟩
        · refine zA_brF' (c := x40 = 0) rfl rfl rfl c68 ?_
          refine zA_aldn rfl rfl rfl ?_
          refine zA_push rfl rfl zkk7 ?_
          obtain ⟨p69, i70, j71, v76, e72, c73, c74, e75, e77, H⟩ := zrj_e H
          refine zA_lal rfl rfl e72 c73 c74 e75 e77 ?_
          refine zA_ld rfl rfl rfl ?_
          refine zA_st (st' := [zJ (x64.toInt64), zJ v76]) rfl rfl rfl rfl ?_
          refine zA_st (st' := [zI (lg_cmp v76 (x64.toInt64))]) rfl rfl rfl rfl ?_
          rcases zite_e H with ⟨c78, H⟩ | ⟨c78, H⟩
          · refine zA_brT (c := (lg_cmp v76 (x64.toInt64)) = 0) rfl rfl rfl c78 ?_
            refine zA_tr (L := [some (zrv x0), some (zrv x1), some (zrv x2), some (zrv x3), some (zrv x4), some (zI x5), none, none, none]) rfl rfl ?_
            refine zA_go rfl rfl ?_
            exact zA_tr (L := [some (zrv x0), some (zrv x1), some (zrv x2), some (zrv x3), some (zrv x4), some (zI x5), none, none, none]) rfl rfl (zmS291_2349 hk16 _ _ _ _ _ _ _ _ _ H)
          · refine zA_brF (c := (lg_cmp v76 (x64.toInt64)) = 0) rfl rfl rfl c78 ?_
            refine zA_push rfl rfl zkk7 ?_
            cases H
            exact zA_ret rfl (zret_Z (by decide))
        · refine zA_brT' (c := x40 = 0) rfl rfl rfl c68 ?_
          refine zA_tr (L := [some (zrv x0), some (zrv x1), some (zrv x2), some (zrv x3), some (zrv x4), some (zI x5), none, none, none]) rfl rfl ?_
          refine zA_go rfl rfl ?_
          exact zA_tr (L := [some (zrv x0), some (zrv x1), some (zrv x2), some (zrv x3), some (zrv x4), some (zI x5), none, none, none]) rfl rfl (zmS291_2349 hk16 _ _ _ _ _ _ _ _ _ H)
      · refine zA_brF (c := x66 = x40) rfl rfl rfl c67 ?_
        refine zA_push rfl rfl zkk7 ?_
        cases H
        exact zA_ret rfl (zret_Z (by decide))
    · cases H
      exact zA_callX (as := [zrv x2]) (st' := []) rfl rfl (zrcv_Q e61 c62) rfl (zmE137 _) rfl rfl rfl (zmS137 C)
  · cases H
    exact zA_callX (as := [zrv x2, zI v48, zI v57]) (st' := []) rfl rfl (zrcv_Q e61 c62) rfl (zmE194 _ _ _) rfl rfl rfl (zmS194 C)
def zm291_753 (k16 : zq → zq → zq → zq → zq → Int32 → zH → zRs Int32) (x0 : zq) (x1 : zq) (x2 : zq) (x3 : zq) (x4 : zq) (x5 : Int32) (h : zH) : zRs Int32 :=
  zri x0 (x5 + (1 : Int32)) h fun v28 =>
  zri x0 (x5 + (2 : Int32)) h fun v37 =>
  zb2 (zm257 x1 v28 v37 x3 h) fun x40 h39 =>
  zri x0 (x5 + (1 : Int32)) h39 fun v48 =>
  zri x0 (x5 + (2 : Int32)) h39 fun v57 =>
  zob 12 x2 fun p59 i60 =>
  zb (zm193 x2 v48 v57 h39) fun x64 h63 =>
  zb (zm137 x2 h63) fun x66 h65 =>
  if x66 = x40 then
    if x40 = 0 then
      zrj x3 (0 : Int32) h65 fun v76 =>
      if (lg_cmp v76 (x64.toInt64)) = 0 then
        zm291_2349 k16 x0 x1 x2 x3 x4 x5 h65
      else
        some (.inl (0 : Int32), h65)
    else
      zm291_2349 k16 x0 x1 x2 x3 x4 x5 h65
  else
    some (.inl (0 : Int32), h65)
theorem zmS291_753 {k16 : zq → zq → zq → zq → zq → Int32 → zH → zRs Int32} (hk16 : ∀ (x0 : zq) (x1 : zq) (x2 : zq) (x3 : zq) (x4 : zq) (x5 : Int32) (h : zH) (r : Int32 ⊕ Nat) (h' : zH), k16 x0 x1 x2 x3 x4 x5 h = some (r, h') → zAt 291 16 [some (zrv x0), some (zrv x1), some (zrv x2), some (zrv x3), some (zrv x4), some (zI x5), none, none, none] [] h (zoI r) h') : ∀ (x0 : zq) (x1 : zq) (x2 : zq) (x3 : zq) (x4 : zq) (x5 : Int32) (h : zH) (r : Int32 ⊕ Nat) (h' : zH), zm291_753 k16 x0 x1 x2 x3 x4 x5 h = some (r, h') → zAt 291 753 [some (zrv x0), some (zrv x1), some (zrv x2), some (zrv x3), some (zrv x4), some (zI x5), none, none, none] [] h (zoI r) h' := by
  intro x0 x1 x2 x3 x4 x5 h r h' H
  unfold zm291_753 at H
  refine zA_aldn rfl rfl rfl ?_
  refine zA_aldn rfl rfl rfl ?_
  refine zA_ld rfl rfl rfl ?_
  refine zA_push rfl rfl zkk5 ?_
  refine zA_st (st' := [zI (x5 + (1 : Int32)), zrv x0, zrv x1]) rfl rfl rfl rfl ?_
  obtain ⟨p21, i22, j23, v28, e24, c25, c26, e27, e29, H⟩ := zri_e H
  refine zA_ial rfl rfl e24 c25 c26 e27 e29 ?_
  refine zA_aldn rfl rfl rfl ?_
  refine zA_ld rfl rfl rfl ?_
  refine zA_push rfl rfl zkk23 ?_
  refine zA_st (st' := [zI (x5 + (2 : Int32)), zrv x0, zI v28, zrv x1]) rfl rfl rfl rfl ?_
  obtain ⟨p30, i31, j32, v37, e33, c34, c35, e36, e38, H⟩ := zri_e H
  refine zA_ial rfl rfl e33 c34 c35 e36 e38 ?_
  refine zA_aldn rfl rfl rfl ?_
  obtain ⟨x40, h39, C, H⟩ := zb2_e H
  refine zA_callV (as := [zrv x1, zI v28, zI v37, zrv x3]) (st' := []) rfl rfl rfl rfl rfl (zmE257 _ _ _ _) rfl (zmS257 C) ?_
  refine zA_ist2 rfl rfl rfl (zset1 (L' := [some (zrv x0), some (zrv x1), some (zrv x2), some (zrv x3), some (zrv x4), some (zI x5), some (zI x40), none, none]) rfl rfl (zpcV rfl rfl)) ?_
  refine zA_aldn rfl rfl rfl ?_
  refine zA_aldn rfl rfl rfl ?_
  refine zA_ld rfl rfl rfl ?_
  refine zA_push rfl rfl zkk5 ?_
  refine zA_st (st' := [zI (x5 + (1 : Int32)), zrv x0, zrv x2]) rfl rfl rfl rfl ?_
  obtain ⟨p41, i42, j43, v48, e44, c45, c46, e47, e49, H⟩ := zri_e H
  refine zA_ial rfl rfl e44 c45 c46 e47 e49 ?_
  refine zA_aldn rfl rfl rfl ?_
  refine zA_ld rfl rfl rfl ?_
  refine zA_push rfl rfl zkk23 ?_
  refine zA_st (st' := [zI (x5 + (2 : Int32)), zrv x0, zI v48, zrv x2]) rfl rfl rfl rfl ?_
  obtain ⟨p50, i51, j52, v57, e53, c54, c55, e56, e58, H⟩ := zri_e H
  refine zA_ial rfl rfl e53 c54 c55 e56 e58 ?_
  obtain ⟨p59, i60, e61, c62, H⟩ := zob_e H
  rcases zb_e H with ⟨x64, h63, C, H⟩ | ⟨E, h63, C, H⟩
  · refine zA_callV (as := [zrv x2, zI v48, zI v57]) (st' := []) rfl rfl rfl (zrcv_Q e61 c62) rfl (zmE193 _ _ _) rfl (zmS193 C) ?_
    refine zA_ist2 rfl rfl rfl (zset1 (L' := [some (zrv x0), some (zrv x1), some (zrv x2), some (zrv x3), some (zrv x4), some (zI x5), some (zI x40), some (zI x64), none]) rfl rfl (zpcV rfl rfl)) ?_
    refine zA_aldn rfl rfl rfl ?_
    rcases zb_e H with ⟨x66, h65, C, H⟩ | ⟨E, h65, C, H⟩
    · refine zA_callV (as := [zrv x2]) (st' := []) rfl rfl rfl (zrcv_Q e61 c62) rfl (zmE137 _) rfl (zmS137 C) ?_
      refine zA_ld rfl rfl rfl ?_
      rcases zite_e H with ⟨c67, H⟩ | ⟨c67, H⟩
      · refine zA_brT (c := x66 = x40) rfl rfl rfl c67 ?_
        refine zA_ld rfl rfl rfl ?_
        rcases zite_e H with ⟨c68, H⟩ | ⟨c68, H⟩
        · refine zA_brF' (c := x40 = 0) rfl rfl rfl c68 ?_
          refine zA_aldn rfl rfl rfl ?_
          refine zA_push rfl rfl zkk7 ?_
          obtain ⟨p69, i70, j71, v76, e72, c73, c74, e75, e77, H⟩ := zrj_e H
          refine zA_lal rfl rfl e72 c73 c74 e75 e77 ?_
          refine zA_ld rfl rfl rfl ?_
          refine zA_st (st' := [zJ (x64.toInt64), zJ v76]) rfl rfl rfl rfl ?_
          refine zA_st (st' := [zI (lg_cmp v76 (x64.toInt64))]) rfl rfl rfl rfl ?_
          rcases zite_e H with ⟨c78, H⟩ | ⟨c78, H⟩
          · refine zA_brT (c := (lg_cmp v76 (x64.toInt64)) = 0) rfl rfl rfl c78 ?_
            refine zA_tr (L := [some (zrv x0), some (zrv x1), some (zrv x2), some (zrv x3), some (zrv x4), some (zI x5), none, none, none]) rfl rfl ?_
            refine zA_go rfl rfl ?_
            exact zA_tr (L := [some (zrv x0), some (zrv x1), some (zrv x2), some (zrv x3), some (zrv x4), some (zI x5), none, none, none]) rfl rfl (zmS291_2349 hk16 _ _ _ _ _ _ _ _ _ H)
          · refine zA_brF (c := (lg_cmp v76 (x64.toInt64)) = 0) rfl rfl rfl c78 ?_
            refine zA_push rfl rfl zkk7 ?_
            cases H
            exact zA_ret rfl (zret_Z (by decide))
        · refine zA_brT' (c := x40 = 0) rfl rfl rfl c68 ?_
          refine zA_tr (L := [some (zrv x0), some (zrv x1), some (zrv x2), some (zrv x3), some (zrv x4), some (zI x5), none, none, none]) rfl rfl ?_
          refine zA_go rfl rfl ?_
          exact zA_tr (L := [some (zrv x0), some (zrv x1), some (zrv x2), some (zrv x3), some (zrv x4), some (zI x5), none, none, none]) rfl rfl (zmS291_2349 hk16 _ _ _ _ _ _ _ _ _ H)
      · refine zA_brF (c := x66 = x40) rfl rfl rfl c67 ?_
        refine zA_push rfl rfl zkk7 ?_
        cases H
        exact zA_ret rfl (zret_Z (by decide))
    · cases H
      exact zA_callX (as := [zrv x2]) (st' := []) rfl rfl (zrcv_Q e61 c62) rfl (zmE137 _) rfl rfl rfl (zmS137 C)
  · cases H
    exact zA_callX (as := [zrv x2, zI v48, zI v57]) (st' := []) rfl rfl (zrcv_Q e61 c62) rfl (zmE193 _ _ _) rfl rfl rfl (zmS193 C)
def zm291_708 (k16 : zq → zq → zq → zq → zq → Int32 → zH → zRs Int32) (x0 : zq) (x1 : zq) (x2 : zq) (x3 : zq) (x4 : zq) (x5 : Int32) (h : zH) : zRs Int32 :=
  zri x0 (x5 + (1 : Int32)) h fun v28 =>
  zri x0 (x5 + (2 : Int32)) h fun v37 =>
  zb2 (zm256 x1 v28 v37 x3 h) fun x40 h39 =>
  zri x0 (x5 + (1 : Int32)) h39 fun v48 =>
  zri x0 (x5 + (2 : Int32)) h39 fun v57 =>
  zob 12 x2 fun p59 i60 =>
  zb (zm192 x2 v48 v57 h39) fun x64 h63 =>
  zb (zm137 x2 h63) fun x66 h65 =>
  if x66 = x40 then
    if x40 = 0 then
      zrj x3 (0 : Int32) h65 fun v76 =>
      if (lg_cmp v76 (x64.toInt64)) = 0 then
        zm291_2349 k16 x0 x1 x2 x3 x4 x5 h65
      else
        some (.inl (0 : Int32), h65)
    else
      zm291_2349 k16 x0 x1 x2 x3 x4 x5 h65
  else
    some (.inl (0 : Int32), h65)
theorem zmS291_708 {k16 : zq → zq → zq → zq → zq → Int32 → zH → zRs Int32} (hk16 : ∀ (x0 : zq) (x1 : zq) (x2 : zq) (x3 : zq) (x4 : zq) (x5 : Int32) (h : zH) (r : Int32 ⊕ Nat) (h' : zH), k16 x0 x1 x2 x3 x4 x5 h = some (r, h') → zAt 291 16 [some (zrv x0), some (zrv x1), some (zrv x2), some (zrv x3), some (zrv x4), some (zI x5), none, none, none] [] h (zoI r) h') : ∀ (x0 : zq) (x1 : zq) (x2 : zq) (x3 : zq) (x4 : zq) (x5 : Int32) (h : zH) (r : Int32 ⊕ Nat) (h' : zH), zm291_708 k16 x0 x1 x2 x3 x4 x5 h = some (r, h') → zAt 291 708 [some (zrv x0), some (zrv x1), some (zrv x2), some (zrv x3), some (zrv x4), some (zI x5), none, none, none] [] h (zoI r) h' := by
  intro x0 x1 x2 x3 x4 x5 h r h' H
  unfold zm291_708 at H
  refine zA_aldn rfl rfl rfl ?_
  refine zA_aldn rfl rfl rfl ?_
  refine zA_ld rfl rfl rfl ?_
  refine zA_push rfl rfl zkk5 ?_
  refine zA_st (st' := [zI (x5 + (1 : Int32)), zrv x0, zrv x1]) rfl rfl rfl rfl ?_
  obtain ⟨p21, i22, j23, v28, e24, c25, c26, e27, e29, H⟩ := zri_e H
  refine zA_ial rfl rfl e24 c25 c26 e27 e29 ?_
  refine zA_aldn rfl rfl rfl ?_
  refine zA_ld rfl rfl rfl ?_
  refine zA_push rfl rfl zkk23 ?_
  refine zA_st (st' := [zI (x5 + (2 : Int32)), zrv x0, zI v28, zrv x1]) rfl rfl rfl rfl ?_
  obtain ⟨p30, i31, j32, v37, e33, c34, c35, e36, e38, H⟩ := zri_e H
  refine zA_ial rfl rfl e33 c34 c35 e36 e38 ?_
  refine zA_aldn rfl rfl rfl ?_
  obtain ⟨x40, h39, C, H⟩ := zb2_e H
  refine zA_callV (as := [zrv x1, zI v28, zI v37, zrv x3]) (st' := []) rfl rfl rfl rfl rfl (zmE256 _ _ _ _) rfl (zmS256 C) ?_
  refine zA_ist2 rfl rfl rfl (zset1 (L' := [some (zrv x0), some (zrv x1), some (zrv x2), some (zrv x3), some (zrv x4), some (zI x5), some (zI x40), none, none]) rfl rfl (zpcV rfl rfl)) ?_
  refine zA_aldn rfl rfl rfl ?_
  refine zA_aldn rfl rfl rfl ?_
  refine zA_ld rfl rfl rfl ?_
  refine zA_push rfl rfl zkk5 ?_
  refine zA_st (st' := [zI (x5 + (1 : Int32)), zrv x0, zrv x2]) rfl rfl rfl rfl ?_
  obtain ⟨p41, i42, j43, v48, e44, c45, c46, e47, e49, H⟩ := zri_e H
  refine zA_ial rfl rfl e44 c45 c46 e47 e49 ?_
  refine zA_aldn rfl rfl rfl ?_
  refine zA_ld rfl rfl rfl ?_
  refine zA_push rfl rfl zkk23 ?_
  refine zA_st (st' := [zI (x5 + (2 : Int32)), zrv x0, zI v48, zrv x2]) rfl rfl rfl rfl ?_
  obtain ⟨p50, i51, j52, v57, e53, c54, c55, e56, e58, H⟩ := zri_e H
  refine zA_ial rfl rfl e53 c54 c55 e56 e58 ?_
  obtain ⟨p59, i60, e61, c62, H⟩ := zob_e H
  rcases zb_e H with ⟨x64, h63, C, H⟩ | ⟨E, h63, C, H⟩
  · refine zA_callV (as := [zrv x2, zI v48, zI v57]) (st' := []) rfl rfl rfl (zrcv_Q e61 c62) rfl (zmE192 _ _ _) rfl (zmS192 C) ?_
    refine zA_ist2 rfl rfl rfl (zset1 (L' := [some (zrv x0), some (zrv x1), some (zrv x2), some (zrv x3), some (zrv x4), some (zI x5), some (zI x40), some (zI x64), none]) rfl rfl (zpcV rfl rfl)) ?_
    refine zA_aldn rfl rfl rfl ?_
    rcases zb_e H with ⟨x66, h65, C, H⟩ | ⟨E, h65, C, H⟩
    · refine zA_callV (as := [zrv x2]) (st' := []) rfl rfl rfl (zrcv_Q e61 c62) rfl (zmE137 _) rfl (zmS137 C) ?_
      refine zA_ld rfl rfl rfl ?_
      rcases zite_e H with ⟨c67, H⟩ | ⟨c67, H⟩
      · refine zA_brT (c := x66 = x40) rfl rfl rfl c67 ?_
        refine zA_ld rfl rfl rfl ?_
        rcases zite_e H with ⟨c68, H⟩ | ⟨c68, H⟩
        · refine zA_brF' (c := x40 = 0) rfl rfl rfl c68 ?_
          refine zA_aldn rfl rfl rfl ?_
          refine zA_push rfl rfl zkk7 ?_
          obtain ⟨p69, i70, j71, v76, e72, c73, c74, e75, e77, H⟩ := zrj_e H
          refine zA_lal rfl rfl e72 c73 c74 e75 e77 ?_
          refine zA_ld rfl rfl rfl ?_
          refine zA_st (st' := [zJ (x64.toInt64), zJ v76]) rfl rfl rfl rfl ?_
          refine zA_st (st' := [zI (lg_cmp v76 (x64.toInt64))]) rfl rfl rfl rfl ?_
          rcases zite_e H with ⟨c78, H⟩ | ⟨c78, H⟩
          · refine zA_brT (c := (lg_cmp v76 (x64.toInt64)) = 0) rfl rfl rfl c78 ?_
            refine zA_tr (L := [some (zrv x0), some (zrv x1), some (zrv x2), some (zrv x3), some (zrv x4), some (zI x5), none, none, none]) rfl rfl ?_
            refine zA_go rfl rfl ?_
            exact zA_tr (L := [some (zrv x0), some (zrv x1), some (zrv x2), some (zrv x3), some (zrv x4), some (zI x5), none, none, none]) rfl rfl (zmS291_2349 hk16 _ _ _ _ _ _ _ _ _ H)
          · refine zA_brF (c := (lg_cmp v76 (x64.toInt64)) = 0) rfl rfl rfl c78 ?_
            refine zA_push rfl rfl zkk7 ?_
            cases H
            exact zA_ret rfl (zret_Z (by decide))
        · refine zA_brT' (c := x40 = 0) rfl rfl rfl c68 ?_
          refine zA_tr (L := [some (zrv x0), some (zrv x1), some (zrv x2), some (zrv x3), some (zrv x4), some (zI x5), none, none, none]) rfl rfl ?_
          refine zA_go rfl rfl ?_
          exact zA_tr (L := [some (zrv x0), some (zrv x1), some (zrv x2), some (zrv x3), some (zrv x4), some (zI x5), none, none, none]) rfl rfl (zmS291_2349 hk16 _ _ _ _ _ _ _ _ _ H)
      · refine zA_brF (c := x66 = x40) rfl rfl rfl c67 ?_
        refine zA_push rfl rfl zkk7 ?_
        cases H
        exact zA_ret rfl (zret_Z (by decide))
    · cases H
      exact zA_callX (as := [zrv x2]) (st' := []) rfl rfl (zrcv_Q e61 c62) rfl (zmE137 _) rfl rfl rfl (zmS137 C)
  · cases H
    exact zA_callX (as := [zrv x2, zI v48, zI v57]) (st' := []) rfl rfl (zrcv_Q e61 c62) rfl (zmE192 _ _ _) rfl rfl rfl (zmS192 C)
def zm291_701 (k16 : zq → zq → zq → zq → zq → Int32 → zH → zRs Int32) (x0 : zq) (x1 : zq) (x2 : zq) (x3 : zq) (x4 : zq) (x5 : Int32) (h : zH) : zRs Int32 :=
  zob 11 x1 fun p21 i22 =>
  zb (zm84 x1 h) fun x26 h25 =>
  zob 12 x2 fun p27 i28 =>
  zb (zm190 x2 h25) fun x32 h31 =>
  if x26 = x32 then
    zm291_2349 k16 x0 x1 x2 x3 x4 x5 h31
  else
    some (.inl (0 : Int32), h31)
theorem zmS291_701 {k16 : zq → zq → zq → zq → zq → Int32 → zH → zRs Int32} (hk16 : ∀ (x0 : zq) (x1 : zq) (x2 : zq) (x3 : zq) (x4 : zq) (x5 : Int32) (h : zH) (r : Int32 ⊕ Nat) (h' : zH), k16 x0 x1 x2 x3 x4 x5 h = some (r, h') → zAt 291 16 [some (zrv x0), some (zrv x1), some (zrv x2), some (zrv x3), some (zrv x4), some (zI x5), none, none, none] [] h (zoI r) h') : ∀ (x0 : zq) (x1 : zq) (x2 : zq) (x3 : zq) (x4 : zq) (x5 : Int32) (h : zH) (r : Int32 ⊕ Nat) (h' : zH), zm291_701 k16 x0 x1 x2 x3 x4 x5 h = some (r, h') → zAt 291 701 [some (zrv x0), some (zrv x1), some (zrv x2), some (zrv x3), some (zrv x4), some (zI x5), none, none, none] [] h (zoI r) h' := by
  intro x0 x1 x2 x3 x4 x5 h r h' H
  unfold zm291_701 at H
  refine zA_aldn rfl rfl rfl ?_
  obtain ⟨p21, i22, e23, c24, H⟩ := zob_e H
  rcases zb_e H with ⟨x26, h25, C, H⟩ | ⟨E, h25, C, H⟩
  · refine zA_callV (as := [zrv x1]) (st' := []) rfl rfl rfl (zrcv_Q e23 c24) rfl (zmE84 _) rfl (zmS84 C) ?_
    refine zA_aldn rfl rfl rfl ?_
    obtain ⟨p27, i28, e29, c30, H⟩ := zob_e H
    rcases zb_e H with ⟨x32, h31, C, H⟩ | ⟨E, h31, C, H⟩
    · refine zA_callV (as := [zrv x2]) (st' := [zI x26]) rfl rfl rfl (zrcv_Q e29 c30) rfl (zmE190 _) rfl (zmS190 C) ?_
      rcases zite_e H with ⟨c33, H⟩ | ⟨c33, H⟩
      · refine zA_brT (c := x26 = x32) rfl rfl rfl c33 ?_
        exact zA_tr (L := [some (zrv x0), some (zrv x1), some (zrv x2), some (zrv x3), some (zrv x4), some (zI x5), none, none, none]) rfl rfl (zmS291_2349 hk16 _ _ _ _ _ _ _ _ _ H)
      · refine zA_brF (c := x26 = x32) rfl rfl rfl c33 ?_
        refine zA_push rfl rfl zkk7 ?_
        cases H
        exact zA_ret rfl (zret_Z (by decide))
    · cases H
      exact zA_callX (as := [zrv x2]) (st' := [zI x26]) rfl rfl (zrcv_Q e29 c30) rfl (zmE190 _) rfl rfl rfl (zmS190 C)
  · cases H
    exact zA_callX (as := [zrv x1]) (st' := []) rfl rfl (zrcv_Q e23 c24) rfl (zmE84 _) rfl rfl rfl (zmS84 C)
def zm291_694 (k16 : zq → zq → zq → zq → zq → Int32 → zH → zRs Int32) (x0 : zq) (x1 : zq) (x2 : zq) (x3 : zq) (x4 : zq) (x5 : Int32) (h : zH) : zRs Int32 :=
  zob 11 x1 fun p21 i22 =>
  zb (zm83 x1 h) fun x26 h25 =>
  zob 12 x2 fun p27 i28 =>
  zb (zm189 x2 h25) fun x32 h31 =>
  if x26 = x32 then
    zm291_2349 k16 x0 x1 x2 x3 x4 x5 h31
  else
    some (.inl (0 : Int32), h31)
theorem zmS291_694 {k16 : zq → zq → zq → zq → zq → Int32 → zH → zRs Int32} (hk16 : ∀ (x0 : zq) (x1 : zq) (x2 : zq) (x3 : zq) (x4 : zq) (x5 : Int32) (h : zH) (r : Int32 ⊕ Nat) (h' : zH), k16 x0 x1 x2 x3 x4 x5 h = some (r, h') → zAt 291 16 [some (zrv x0), some (zrv x1), some (zrv x2), some (zrv x3), some (zrv x4), some (zI x5), none, none, none] [] h (zoI r) h') : ∀ (x0 : zq) (x1 : zq) (x2 : zq) (x3 : zq) (x4 : zq) (x5 : Int32) (h : zH) (r : Int32 ⊕ Nat) (h' : zH), zm291_694 k16 x0 x1 x2 x3 x4 x5 h = some (r, h') → zAt 291 694 [some (zrv x0), some (zrv x1), some (zrv x2), some (zrv x3), some (zrv x4), some (zI x5), none, none, none] [] h (zoI r) h' := by
  intro x0 x1 x2 x3 x4 x5 h r h' H
  unfold zm291_694 at H
  refine zA_aldn rfl rfl rfl ?_
  obtain ⟨p21, i22, e23, c24, H⟩ := zob_e H
  rcases zb_e H with ⟨x26, h25, C, H⟩ | ⟨E, h25, C, H⟩
  · refine zA_callV (as := [zrv x1]) (st' := []) rfl rfl rfl (zrcv_Q e23 c24) rfl (zmE83 _) rfl (zmS83 C) ?_
    refine zA_aldn rfl rfl rfl ?_
    obtain ⟨p27, i28, e29, c30, H⟩ := zob_e H
    rcases zb_e H with ⟨x32, h31, C, H⟩ | ⟨E, h31, C, H⟩
    · refine zA_callV (as := [zrv x2]) (st' := [zI x26]) rfl rfl rfl (zrcv_Q e29 c30) rfl (zmE189 _) rfl (zmS189 C) ?_
      rcases zite_e H with ⟨c33, H⟩ | ⟨c33, H⟩
      · refine zA_brT (c := x26 = x32) rfl rfl rfl c33 ?_
        exact zA_tr (L := [some (zrv x0), some (zrv x1), some (zrv x2), some (zrv x3), some (zrv x4), some (zI x5), none, none, none]) rfl rfl (zmS291_2349 hk16 _ _ _ _ _ _ _ _ _ H)
      · refine zA_brF (c := x26 = x32) rfl rfl rfl c33 ?_
        refine zA_push rfl rfl zkk7 ?_
        cases H
        exact zA_ret rfl (zret_Z (by decide))
    · cases H
      exact zA_callX (as := [zrv x2]) (st' := [zI x26]) rfl rfl (zrcv_Q e29 c30) rfl (zmE189 _) rfl rfl rfl (zmS189 C)
  · cases H
    exact zA_callX (as := [zrv x1]) (st' := []) rfl rfl (zrcv_Q e23 c24) rfl (zmE83 _) rfl rfl rfl (zmS83 C)
def zm291_669 (k16 : zq → zq → zq → zq → zq → Int32 → zH → zRs Int32) (x0 : zq) (x1 : zq) (x2 : zq) (x3 : zq) (x4 : zq) (x5 : Int32) (h : zH) : zRs Int32 :=
  zb2 (zm255 x1 x3 h) fun x22 h21 =>
  zob 12 x2 fun p23 i24 =>
  zb (zm188 x2 h21) fun x28 h27 =>
  zb (zm137 x2 h27) fun x30 h29 =>
  if x30 = x22 then
    if x22 = 0 then
      zrj x3 (0 : Int32) h29 fun v40 =>
      if (lg_cmp v40 (x28.toInt64)) = 0 then
        zm291_2349 k16 x0 x1 x2 x3 x4 x5 h29
      else
        some (.inl (0 : Int32), h29)
    else
      zm291_2349 k16 x0 x1 x2 x3 x4 x5 h29
  else
    some (.inl (0 : Int32), h29)
theorem zmS291_669 {k16 : zq → zq → zq → zq → zq → Int32 → zH → zRs Int32} (hk16 : ∀ (x0 : zq) (x1 : zq) (x2 : zq) (x3 : zq) (x4 : zq) (x5 : Int32) (h : zH) (r : Int32 ⊕ Nat) (h' : zH), k16 x0 x1 x2 x3 x4 x5 h = some (r, h') → zAt 291 16 [some (zrv x0), some (zrv x1), some (zrv x2), some (zrv x3), some (zrv x4), some (zI x5), none, none, none] [] h (zoI r) h') : ∀ (x0 : zq) (x1 : zq) (x2 : zq) (x3 : zq) (x4 : zq) (x5 : Int32) (h : zH) (r : Int32 ⊕ Nat) (h' : zH), zm291_669 k16 x0 x1 x2 x3 x4 x5 h = some (r, h') → zAt 291 669 [some (zrv x0), some (zrv x1), some (zrv x2), some (zrv x3), some (zrv x4), some (zI x5), none, none, none] [] h (zoI r) h' := by
  intro x0 x1 x2 x3 x4 x5 h r h' H
  unfold zm291_669 at H
  refine zA_aldn rfl rfl rfl ?_
  refine zA_aldn rfl rfl rfl ?_
  obtain ⟨x22, h21, C, H⟩ := zb2_e H
  refine zA_callV (as := [zrv x1, zrv x3]) (st' := []) rfl rfl rfl rfl rfl (zmE255 _ _) rfl (zmS255 C) ?_
  refine zA_ist2 rfl rfl rfl (zset1 (L' := [some (zrv x0), some (zrv x1), some (zrv x2), some (zrv x3), some (zrv x4), some (zI x5), some (zI x22), none, none]) rfl rfl (zpcV rfl rfl)) ?_
  refine zA_aldn rfl rfl rfl ?_
  obtain ⟨p23, i24, e25, c26, H⟩ := zob_e H
  rcases zb_e H with ⟨x28, h27, C, H⟩ | ⟨E, h27, C, H⟩
  · refine zA_callV (as := [zrv x2]) (st' := []) rfl rfl rfl (zrcv_Q e25 c26) rfl (zmE188 _) rfl (zmS188 C) ?_
    refine zA_ist2 rfl rfl rfl (zset1 (L' := [some (zrv x0), some (zrv x1), some (zrv x2), some (zrv x3), some (zrv x4), some (zI x5), some (zI x22), some (zI x28), none]) rfl rfl (zpcV rfl rfl)) ?_
    refine zA_aldn rfl rfl rfl ?_
    rcases zb_e H with ⟨x30, h29, C, H⟩ | ⟨E, h29, C, H⟩
    · refine zA_callV (as := [zrv x2]) (st' := []) rfl rfl rfl (zrcv_Q e25 c26) rfl (zmE137 _) rfl (zmS137 C) ?_
      refine zA_ld rfl rfl rfl ?_
      rcases zite_e H with ⟨c31, H⟩ | ⟨c31, H⟩
      · refine zA_brT (c := x30 = x22) rfl rfl rfl c31 ?_
        refine zA_ld rfl rfl rfl ?_
        rcases zite_e H with ⟨c32, H⟩ | ⟨c32, H⟩
        · refine zA_brF' (c := x22 = 0) rfl rfl rfl c32 ?_
          refine zA_aldn rfl rfl rfl ?_
          refine zA_push rfl rfl zkk7 ?_
          obtain ⟨p33, i34, j35, v40, e36, c37, c38, e39, e41, H⟩ := zrj_e H
          refine zA_lal rfl rfl e36 c37 c38 e39 e41 ?_
          refine zA_ld rfl rfl rfl ?_
          refine zA_st (st' := [zJ (x28.toInt64), zJ v40]) rfl rfl rfl rfl ?_
          refine zA_st (st' := [zI (lg_cmp v40 (x28.toInt64))]) rfl rfl rfl rfl ?_
          rcases zite_e H with ⟨c42, H⟩ | ⟨c42, H⟩
          · refine zA_brT (c := (lg_cmp v40 (x28.toInt64)) = 0) rfl rfl rfl c42 ?_
            refine zA_tr (L := [some (zrv x0), some (zrv x1), some (zrv x2), some (zrv x3), some (zrv x4), some (zI x5), none, none, none]) rfl rfl ?_
            refine zA_go rfl rfl ?_
            exact zA_tr (L := [some (zrv x0), some (zrv x1), some (zrv x2), some (zrv x3), some (zrv x4), some (zI x5), none, none, none]) rfl rfl (zmS291_2349 hk16 _ _ _ _ _ _ _ _ _ H)
          · refine zA_brF (c := (lg_cmp v40 (x28.toInt64)) = 0) rfl rfl rfl c42 ?_
            refine zA_push rfl rfl zkk7 ?_
            cases H
            exact zA_ret rfl (zret_Z (by decide))
        · refine zA_brT' (c := x22 = 0) rfl rfl rfl c32 ?_
          refine zA_tr (L := [some (zrv x0), some (zrv x1), some (zrv x2), some (zrv x3), some (zrv x4), some (zI x5), none, none, none]) rfl rfl ?_
          refine zA_go rfl rfl ?_
          exact zA_tr (L := [some (zrv x0), some (zrv x1), some (zrv x2), some (zrv x3), some (zrv x4), some (zI x5), none, none, none]) rfl rfl (zmS291_2349 hk16 _ _ _ _ _ _ _ _ _ H)
      · refine zA_brF (c := x30 = x22) rfl rfl rfl c31 ?_
        refine zA_push rfl rfl zkk7 ?_
        cases H
        exact zA_ret rfl (zret_Z (by decide))
    · cases H
      exact zA_callX (as := [zrv x2]) (st' := []) rfl rfl (zrcv_Q e25 c26) rfl (zmE137 _) rfl rfl rfl (zmS137 C)
  · cases H
    exact zA_callX (as := [zrv x2]) (st' := []) rfl rfl (zrcv_Q e25 c26) rfl (zmE188 _) rfl rfl rfl (zmS188 C)
def zm291_661 (k16 : zq → zq → zq → zq → zq → Int32 → zH → zRs Int32) (x0 : zq) (x1 : zq) (x2 : zq) (x3 : zq) (x4 : zq) (x5 : Int32) (x6 : Int32) (s0 : zq) (s1 : Int32) (h : zH) : zRs Int32 :=
  zob 12 s0 fun p21 i22 =>
  zb (zm187 s0 s1 h) fun _ h25 =>
  zob 12 x2 fun p26 i27 =>
  zb (zm137 x2 h25) fun x31 h30 =>
  if x31 = x6 then
    zm291_2349 k16 x0 x1 x2 x3 x4 x5 h30
  else
    some (.inl (0 : Int32), h30)
theorem zmS291_661 {k16 : zq → zq → zq → zq → zq → Int32 → zH → zRs Int32} (hk16 : ∀ (x0 : zq) (x1 : zq) (x2 : zq) (x3 : zq) (x4 : zq) (x5 : Int32) (h : zH) (r : Int32 ⊕ Nat) (h' : zH), k16 x0 x1 x2 x3 x4 x5 h = some (r, h') → zAt 291 16 [some (zrv x0), some (zrv x1), some (zrv x2), some (zrv x3), some (zrv x4), some (zI x5), none, none, none] [] h (zoI r) h') : ∀ (x0 : zq) (x1 : zq) (x2 : zq) (x3 : zq) (x4 : zq) (x5 : Int32) (x6 : Int32) (s0 : zq) (s1 : Int32) (h : zH) (r : Int32 ⊕ Nat) (h' : zH), zm291_661 k16 x0 x1 x2 x3 x4 x5 x6 s0 s1 h = some (r, h') → zAt 291 661 [some (zrv x0), some (zrv x1), some (zrv x2), some (zrv x3), some (zrv x4), some (zI x5), some (zI x6), none, none] [zI s1, zrv s0] h (zoI r) h' := by
  intro x0 x1 x2 x3 x4 x5 x6 s0 s1 h r h' H
  unfold zm291_661 at H
  obtain ⟨p21, i22, e23, c24, H⟩ := zob_e H
  rcases zb_e H with ⟨u33, h25, C, H⟩ | ⟨E, h25, C, H⟩
  · refine zA_callU (as := [zrv s0, zI s1]) (st' := []) rfl rfl rfl (zrcv_Q e23 c24) rfl (zmE187 _ _) rfl (zmS187 C) ?_
    refine zA_aldn rfl rfl rfl ?_
    obtain ⟨p26, i27, e28, c29, H⟩ := zob_e H
    rcases zb_e H with ⟨x31, h30, C, H⟩ | ⟨E, h30, C, H⟩
    · refine zA_callV (as := [zrv x2]) (st' := []) rfl rfl rfl (zrcv_Q e28 c29) rfl (zmE137 _) rfl (zmS137 C) ?_
      refine zA_ld rfl rfl rfl ?_
      rcases zite_e H with ⟨c32, H⟩ | ⟨c32, H⟩
      · refine zA_brT (c := x31 = x6) rfl rfl rfl c32 ?_
        refine zA_tr (L := [some (zrv x0), some (zrv x1), some (zrv x2), some (zrv x3), some (zrv x4), some (zI x5), none, none, none]) rfl rfl ?_
        refine zA_go rfl rfl ?_
        exact zA_tr (L := [some (zrv x0), some (zrv x1), some (zrv x2), some (zrv x3), some (zrv x4), some (zI x5), none, none, none]) rfl rfl (zmS291_2349 hk16 _ _ _ _ _ _ _ _ _ H)
      · refine zA_brF (c := x31 = x6) rfl rfl rfl c32 ?_
        refine zA_push rfl rfl zkk7 ?_
        cases H
        exact zA_ret rfl (zret_Z (by decide))
    · cases H
      exact zA_callX (as := [zrv x2]) (st' := []) rfl rfl (zrcv_Q e28 c29) rfl (zmE137 _) rfl rfl rfl (zmS137 C)
  · cases H
    exact zA_callX (as := [zrv s0, zI s1]) (st' := []) rfl rfl (zrcv_Q e23 c24) rfl (zmE187 _ _) rfl rfl rfl (zmS187 C)
def zm291_649 (k16 : zq → zq → zq → zq → zq → Int32 → zH → zRs Int32) (x0 : zq) (x1 : zq) (x2 : zq) (x3 : zq) (x4 : zq) (x5 : Int32) (s0 : zq) (s1 : Int32) (h : zH) : zRs Int32 :=
  zb2 (zm254 s0 s1 h) fun x22 h21 =>
  zri x0 (x5 + (1 : Int32)) h21 fun v30 =>
  if v30 = 0 then
    zm291_661 k16 x0 x1 x2 x3 x4 x5 x22 x2 (0 : Int32) h21
  else
    zm291_661 k16 x0 x1 x2 x3 x4 x5 x22 x2 (1 : Int32) h21
theorem zmS291_649 {k16 : zq → zq → zq → zq → zq → Int32 → zH → zRs Int32} (hk16 : ∀ (x0 : zq) (x1 : zq) (x2 : zq) (x3 : zq) (x4 : zq) (x5 : Int32) (h : zH) (r : Int32 ⊕ Nat) (h' : zH), k16 x0 x1 x2 x3 x4 x5 h = some (r, h') → zAt 291 16 [some (zrv x0), some (zrv x1), some (zrv x2), some (zrv x3), some (zrv x4), some (zI x5), none, none, none] [] h (zoI r) h') : ∀ (x0 : zq) (x1 : zq) (x2 : zq) (x3 : zq) (x4 : zq) (x5 : Int32) (s0 : zq) (s1 : Int32) (h : zH) (r : Int32 ⊕ Nat) (h' : zH), zm291_649 k16 x0 x1 x2 x3 x4 x5 s0 s1 h = some (r, h') → zAt 291 649 [some (zrv x0), some (zrv x1), some (zrv x2), some (zrv x3), some (zrv x4), some (zI x5), none, none, none] [zI s1, zrv s0] h (zoI r) h' := by
  intro x0 x1 x2 x3 x4 x5 s0 s1 h r h' H
  unfold zm291_649 at H
  obtain ⟨x22, h21, C, H⟩ := zb2_e H
  refine zA_callV (as := [zrv s0, zI s1]) (st' := []) rfl rfl rfl rfl rfl (zmE254 _ _) rfl (zmS254 C) ?_
  refine zA_ist2 rfl rfl rfl (zset1 (L' := [some (zrv x0), some (zrv x1), some (zrv x2), some (zrv x3), some (zrv x4), some (zI x5), some (zI x22), none, none]) rfl rfl (zpcV rfl rfl)) ?_
  refine zA_aldn rfl rfl rfl ?_
  refine zA_aldn rfl rfl rfl ?_
  refine zA_ld rfl rfl rfl ?_
  refine zA_push rfl rfl zkk5 ?_
  refine zA_st (st' := [zI (x5 + (1 : Int32)), zrv x0, zrv x2]) rfl rfl rfl rfl ?_
  obtain ⟨p23, i24, j25, v30, e26, c27, c28, e29, e31, H⟩ := zri_e H
  refine zA_ial rfl rfl e26 c27 c28 e29 e31 ?_
  rcases zite_e H with ⟨c32, H⟩ | ⟨c32, H⟩
  · refine zA_brT (c := v30 = 0) rfl rfl rfl c32 ?_
    refine zA_push rfl rfl zkk7 ?_
    exact zA_tr (L := [some (zrv x0), some (zrv x1), some (zrv x2), some (zrv x3), some (zrv x4), some (zI x5), some (zI x22), none, none]) rfl rfl (zmS291_661 hk16 _ _ _ _ _ _ _ _ _ _ _ _ H)
  · refine zA_brF (c := v30 = 0) rfl rfl rfl c32 ?_
    refine zA_push rfl rfl zkk5 ?_
    refine zA_go rfl rfl ?_
    exact zA_tr (L := [some (zrv x0), some (zrv x1), some (zrv x2), some (zrv x3), some (zrv x4), some (zI x5), some (zI x22), none, none]) rfl rfl (zmS291_661 hk16 _ _ _ _ _ _ _ _ _ _ _ _ H)
def zm291_639 (k16 : zq → zq → zq → zq → zq → Int32 → zH → zRs Int32) (x0 : zq) (x1 : zq) (x2 : zq) (x3 : zq) (x4 : zq) (x5 : Int32) (h : zH) : zRs Int32 :=
  zri x0 (x5 + (1 : Int32)) h fun v28 =>
  if v28 = 0 then
    zm291_649 k16 x0 x1 x2 x3 x4 x5 x1 (0 : Int32) h
  else
    zm291_649 k16 x0 x1 x2 x3 x4 x5 x1 (1 : Int32) h
theorem zmS291_639 {k16 : zq → zq → zq → zq → zq → Int32 → zH → zRs Int32} (hk16 : ∀ (x0 : zq) (x1 : zq) (x2 : zq) (x3 : zq) (x4 : zq) (x5 : Int32) (h : zH) (r : Int32 ⊕ Nat) (h' : zH), k16 x0 x1 x2 x3 x4 x5 h = some (r, h') → zAt 291 16 [some (zrv x0), some (zrv x1), some (zrv x2), some (zrv x3), some (zrv x4), some (zI x5), none, none, none] [] h (zoI r) h') : ∀ (x0 : zq) (x1 : zq) (x2 : zq) (x3 : zq) (x4 : zq) (x5 : Int32) (h : zH) (r : Int32 ⊕ Nat) (h' : zH), zm291_639 k16 x0 x1 x2 x3 x4 x5 h = some (r, h') → zAt 291 639 [some (zrv x0), some (zrv x1), some (zrv x2), some (zrv x3), some (zrv x4), some (zI x5), none, none, none] [] h (zoI r) h' := by
  intro x0 x1 x2 x3 x4 x5 h r h' H
  unfold zm291_639 at H
  refine zA_aldn rfl rfl rfl ?_
  refine zA_aldn rfl rfl rfl ?_
  refine zA_ld rfl rfl rfl ?_
  refine zA_push rfl rfl zkk5 ?_
  refine zA_st (st' := [zI (x5 + (1 : Int32)), zrv x0, zrv x1]) rfl rfl rfl rfl ?_
  obtain ⟨p21, i22, j23, v28, e24, c25, c26, e27, e29, H⟩ := zri_e H
  refine zA_ial rfl rfl e24 c25 c26 e27 e29 ?_
  rcases zite_e H with ⟨c30, H⟩ | ⟨c30, H⟩
  · refine zA_brT (c := v28 = 0) rfl rfl rfl c30 ?_
    refine zA_push rfl rfl zkk7 ?_
    exact zA_tr (L := [some (zrv x0), some (zrv x1), some (zrv x2), some (zrv x3), some (zrv x4), some (zI x5), none, none, none]) rfl rfl (zmS291_649 hk16 _ _ _ _ _ _ _ _ _ _ _ H)
  · refine zA_brF (c := v28 = 0) rfl rfl rfl c30 ?_
    refine zA_push rfl rfl zkk5 ?_
    refine zA_go rfl rfl ?_
    exact zA_tr (L := [some (zrv x0), some (zrv x1), some (zrv x2), some (zrv x3), some (zrv x4), some (zI x5), none, none, none]) rfl rfl (zmS291_649 hk16 _ _ _ _ _ _ _ _ _ _ _ H)
def zm291_604 (k16 : zq → zq → zq → zq → zq → Int32 → zH → zRs Int32) (x0 : zq) (x1 : zq) (x2 : zq) (x3 : zq) (x4 : zq) (x5 : Int32) (h : zH) : zRs Int32 :=
  zri x0 (x5 + (1 : Int32)) h fun v28 =>
  zb2 (zm253 x1 v28 x3 h) fun x31 h30 =>
  zri x0 (x5 + (1 : Int32)) h30 fun v39 =>
  zob 12 x2 fun p41 i42 =>
  zb (zm186 x2 v39 h30) fun x46 h45 =>
  zb (zm137 x2 h45) fun x48 h47 =>
  if x48 = x31 then
    if x31 = 0 then
      zrj x3 (0 : Int32) h47 fun v58 =>
      if (lg_cmp v58 (x46.toInt64)) = 0 then
        zm291_2349 k16 x0 x1 x2 x3 x4 x5 h47
      else
        some (.inl (0 : Int32), h47)
    else
      zm291_2349 k16 x0 x1 x2 x3 x4 x5 h47
  else
    some (.inl (0 : Int32), h47)
theorem zmS291_604 {k16 : zq → zq → zq → zq → zq → Int32 → zH → zRs Int32} (hk16 : ∀ (x0 : zq) (x1 : zq) (x2 : zq) (x3 : zq) (x4 : zq) (x5 : Int32) (h : zH) (r : Int32 ⊕ Nat) (h' : zH), k16 x0 x1 x2 x3 x4 x5 h = some (r, h') → zAt 291 16 [some (zrv x0), some (zrv x1), some (zrv x2), some (zrv x3), some (zrv x4), some (zI x5), none, none, none] [] h (zoI r) h') : ∀ (x0 : zq) (x1 : zq) (x2 : zq) (x3 : zq) (x4 : zq) (x5 : Int32) (h : zH) (r : Int32 ⊕ Nat) (h' : zH), zm291_604 k16 x0 x1 x2 x3 x4 x5 h = some (r, h') → zAt 291 604 [some (zrv x0), some (zrv x1), some (zrv x2), some (zrv x3), some (zrv x4), some (zI x5), none, none, none] [] h (zoI r) h' := by
  intro x0 x1 x2 x3 x4 x5 h r h' H
  unfold zm291_604 at H
  refine zA_aldn rfl rfl rfl ?_
  refine zA_aldn rfl rfl rfl ?_
  refine zA_ld rfl rfl rfl ?_
  refine zA_push rfl rfl zkk5 ?_
  refine zA_st (st' := [zI (x5 + (1 : Int32)), zrv x0, zrv x1]) rfl rfl rfl rfl ?_
  obtain ⟨p21, i22, j23, v28, e24, c25, c26, e27, e29, H⟩ := zri_e H
  refine zA_ial rfl rfl e24 c25 c26 e27 e29 ?_
  refine zA_aldn rfl rfl rfl ?_
  obtain ⟨x31, h30, C, H⟩ := zb2_e H
  refine zA_callV (as := [zrv x1, zI v28, zrv x3]) (st' := []) rfl rfl rfl rfl rfl (zmE253 _ _ _) rfl (zmS253 C) ?_
  refine zA_ist2 rfl rfl rfl (zset1 (L' := [some (zrv x0), some (zrv x1), some (zrv x2), some (zrv x3), some (zrv x4), some (zI x5), some (zI x31), none, none]) rfl rfl (zpcV rfl rfl)) ?_
  refine zA_aldn rfl rfl rfl ?_
  refine zA_aldn rfl rfl rfl ?_
  refine zA_ld rfl rfl rfl ?_
  refine zA_push rfl rfl zkk5 ?_
  refine zA_st (st' := [zI (x5 + (1 : Int32)), zrv x0, zrv x2]) rfl rfl rfl rfl ?_
  obtain ⟨p32, i33, j34, v39, e35, c36, c37, e38, e40, H⟩ := zri_e H
  refine zA_ial rfl rfl e35 c36 c37 e38 e40 ?_
  obtain ⟨p41, i42, e43, c44, H⟩ := zob_e H
  rcases zb_e H with ⟨x46, h45, C, H⟩ | ⟨E, h45, C, H⟩
  · refine zA_callV (as := [zrv x2, zI v39]) (st' := []) rfl rfl rfl (zrcv_Q e43 c44) rfl (zmE186 _ _) rfl (zmS186 C) ?_
    refine zA_ist2 rfl rfl rfl (zset1 (L' := [some (zrv x0), some (zrv x1), some (zrv x2), some (zrv x3), some (zrv x4), some (zI x5), some (zI x31), some (zI x46), none]) rfl rfl (zpcV rfl rfl)) ?_
    refine zA_aldn rfl rfl rfl ?_
    rcases zb_e H with ⟨x48, h47, C, H⟩ | ⟨E, h47, C, H⟩
    · refine zA_callV (as := [zrv x2]) (st' := []) rfl rfl rfl (zrcv_Q e43 c44) rfl (zmE137 _) rfl (zmS137 C) ?_
      refine zA_ld rfl rfl rfl ?_
      rcases zite_e H with ⟨c49, H⟩ | ⟨c49, H⟩
      · refine zA_brT (c := x48 = x31) rfl rfl rfl c49 ?_
        refine zA_ld rfl rfl rfl ?_
        rcases zite_e H with ⟨c50, H⟩ | ⟨c50, H⟩
        · refine zA_brF' (c := x31 = 0) rfl rfl rfl c50 ?_
          refine zA_aldn rfl rfl rfl ?_
          refine zA_push rfl rfl zkk7 ?_
          obtain ⟨p51, i52, j53, v58, e54, c55, c56, e57, e59, H⟩ := zrj_e H
          refine zA_lal rfl rfl e54 c55 c56 e57 e59 ?_
          refine zA_ld rfl rfl rfl ?_
          refine zA_st (st' := [zJ (x46.toInt64), zJ v58]) rfl rfl rfl rfl ?_
          refine zA_st (st' := [zI (lg_cmp v58 (x46.toInt64))]) rfl rfl rfl rfl ?_
          rcases zite_e H with ⟨c60, H⟩ | ⟨c60, H⟩
          · refine zA_brT (c := (lg_cmp v58 (x46.toInt64)) = 0) rfl rfl rfl c60 ?_
            refine zA_tr (L := [some (zrv x0), some (zrv x1), some (zrv x2), some (zrv x3), some (zrv x4), some (zI x5), none, none, none]) rfl rfl ?_
            refine zA_go rfl rfl ?_
            exact zA_tr (L := [some (zrv x0), some (zrv x1), some (zrv x2), some (zrv x3), some (zrv x4), some (zI x5), none, none, none]) rfl rfl (zmS291_2349 hk16 _ _ _ _ _ _ _ _ _ H)
          · refine zA_brF (c := (lg_cmp v58 (x46.toInt64)) = 0) rfl rfl rfl c60 ?_
            refine zA_push rfl rfl zkk7 ?_
            cases H
            exact zA_ret rfl (zret_Z (by decide))
        · refine zA_brT' (c := x31 = 0) rfl rfl rfl c50 ?_
          refine zA_tr (L := [some (zrv x0), some (zrv x1), some (zrv x2), some (zrv x3), some (zrv x4), some (zI x5), none, none, none]) rfl rfl ?_
          refine zA_go rfl rfl ?_
          exact zA_tr (L := [some (zrv x0), some (zrv x1), some (zrv x2), some (zrv x3), some (zrv x4), some (zI x5), none, none, none]) rfl rfl (zmS291_2349 hk16 _ _ _ _ _ _ _ _ _ H)
      · refine zA_brF (c := x48 = x31) rfl rfl rfl c49 ?_
        refine zA_push rfl rfl zkk7 ?_
        cases H
        exact zA_ret rfl (zret_Z (by decide))
    · cases H
      exact zA_callX (as := [zrv x2]) (st' := []) rfl rfl (zrcv_Q e43 c44) rfl (zmE137 _) rfl rfl rfl (zmS137 C)
  · cases H
    exact zA_callX (as := [zrv x2, zI v39]) (st' := []) rfl rfl (zrcv_Q e43 c44) rfl (zmE186 _ _) rfl rfl rfl (zmS186 C)
def zm291_569 (k16 : zq → zq → zq → zq → zq → Int32 → zH → zRs Int32) (x0 : zq) (x1 : zq) (x2 : zq) (x3 : zq) (x4 : zq) (x5 : Int32) (h : zH) : zRs Int32 :=
  zri x0 (x5 + (1 : Int32)) h fun v28 =>
  zb2 (zm252 x1 v28 x3 h) fun x31 h30 =>
  zri x0 (x5 + (1 : Int32)) h30 fun v39 =>
  zob 12 x2 fun p41 i42 =>
  zb (zm172 x2 v39 h30) fun x46 h45 =>
  zb (zm137 x2 h45) fun x48 h47 =>
  if x48 = x31 then
    if x31 = 0 then
      zrj x3 (0 : Int32) h47 fun v58 =>
      if (lg_cmp v58 (x46.toInt64)) = 0 then
        zm291_2349 k16 x0 x1 x2 x3 x4 x5 h47
      else
        some (.inl (0 : Int32), h47)
    else
      zm291_2349 k16 x0 x1 x2 x3 x4 x5 h47
  else
    some (.inl (0 : Int32), h47)
theorem zmS291_569 {k16 : zq → zq → zq → zq → zq → Int32 → zH → zRs Int32} (hk16 : ∀ (x0 : zq) (x1 : zq) (x2 : zq) (x3 : zq) (x4 : zq) (x5 : Int32) (h : zH) (r : Int32 ⊕ Nat) (h' : zH), k16 x0 x1 x2 x3 x4 x5 h = some (r, h') → zAt 291 16 [some (zrv x0), some (zrv x1), some (zrv x2), some (zrv x3), some (zrv x4), some (zI x5), none, none, none] [] h (zoI r) h') : ∀ (x0 : zq) (x1 : zq) (x2 : zq) (x3 : zq) (x4 : zq) (x5 : Int32) (h : zH) (r : Int32 ⊕ Nat) (h' : zH), zm291_569 k16 x0 x1 x2 x3 x4 x5 h = some (r, h') → zAt 291 569 [some (zrv x0), some (zrv x1), some (zrv x2), some (zrv x3), some (zrv x4), some (zI x5), none, none, none] [] h (zoI r) h' := by
  intro x0 x1 x2 x3 x4 x5 h r h' H
  unfold zm291_569 at H
  refine zA_aldn rfl rfl rfl ?_
  refine zA_aldn rfl rfl rfl ?_
  refine zA_ld rfl rfl rfl ?_
  refine zA_push rfl rfl zkk5 ?_
  refine zA_st (st' := [zI (x5 + (1 : Int32)), zrv x0, zrv x1]) rfl rfl rfl rfl ?_
  obtain ⟨p21, i22, j23, v28, e24, c25, c26, e27, e29, H⟩ := zri_e H
  refine zA_ial rfl rfl e24 c25 c26 e27 e29 ?_
  refine zA_aldn rfl rfl rfl ?_
  obtain ⟨x31, h30, C, H⟩ := zb2_e H
  refine zA_callV (as := [zrv x1, zI v28, zrv x3]) (st' := []) rfl rfl rfl rfl rfl (zmE252 _ _ _) rfl (zmS252 C) ?_
  refine zA_ist2 rfl rfl rfl (zset1 (L' := [some (zrv x0), some (zrv x1), some (zrv x2), some (zrv x3), some (zrv x4), some (zI x5), some (zI x31), none, none]) rfl rfl (zpcV rfl rfl)) ?_
  refine zA_aldn rfl rfl rfl ?_
  refine zA_aldn rfl rfl rfl ?_
  refine zA_ld rfl rfl rfl ?_
  refine zA_push rfl rfl zkk5 ?_
  refine zA_st (st' := [zI (x5 + (1 : Int32)), zrv x0, zrv x2]) rfl rfl rfl rfl ?_
  obtain ⟨p32, i33, j34, v39, e35, c36, c37, e38, e40, H⟩ := zri_e H
  refine zA_ial rfl rfl e35 c36 c37 e38 e40 ?_
  obtain ⟨p41, i42, e43, c44, H⟩ := zob_e H
  rcases zb_e H with ⟨x46, h45, C, H⟩ | ⟨E, h45, C, H⟩
  · refine zA_callV (as := [zrv x2, zI v39]) (st' := []) rfl rfl rfl (zrcv_Q e43 c44) rfl (zmE172 _ _) rfl (zmS172 C) ?_
    refine zA_ist2 rfl rfl rfl (zset1 (L' := [some (zrv x0), some (zrv x1), some (zrv x2), some (zrv x3), some (zrv x4), some (zI x5), some (zI x31), some (zI x46), none]) rfl rfl (zpcV rfl rfl)) ?_
    refine zA_aldn rfl rfl rfl ?_
    rcases zb_e H with ⟨x48, h47, C, H⟩ | ⟨E, h47, C, H⟩
    · refine zA_callV (as := [zrv x2]) (st' := []) rfl rfl rfl (zrcv_Q e43 c44) rfl (zmE137 _) rfl (zmS137 C) ?_
      refine zA_ld rfl rfl rfl ?_
      rcases zite_e H with ⟨c49, H⟩ | ⟨c49, H⟩
      · refine zA_brT (c := x48 = x31) rfl rfl rfl c49 ?_
        refine zA_ld rfl rfl rfl ?_
        rcases zite_e H with ⟨c50, H⟩ | ⟨c50, H⟩
        · refine zA_brF' (c := x31 = 0) rfl rfl rfl c50 ?_
          refine zA_aldn rfl rfl rfl ?_
          refine zA_push rfl rfl zkk7 ?_
          obtain ⟨p51, i52, j53, v58, e54, c55, c56, e57, e59, H⟩ := zrj_e H
          refine zA_lal rfl rfl e54 c55 c56 e57 e59 ?_
          refine zA_ld rfl rfl rfl ?_
          refine zA_st (st' := [zJ (x46.toInt64), zJ v58]) rfl rfl rfl rfl ?_
          refine zA_st (st' := [zI (lg_cmp v58 (x46.toInt64))]) rfl rfl rfl rfl ?_
          rcases zite_e H with ⟨c60, H⟩ | ⟨c60, H⟩
          · refine zA_brT (c := (lg_cmp v58 (x46.toInt64)) = 0) rfl rfl rfl c60 ?_
            refine zA_tr (L := [some (zrv x0), some (zrv x1), some (zrv x2), some (zrv x3), some (zrv x4), some (zI x5), none, none, none]) rfl rfl ?_
            refine zA_go rfl rfl ?_
            exact zA_tr (L := [some (zrv x0), some (zrv x1), some (zrv x2), some (zrv x3), some (zrv x4), some (zI x5), none, none, none]) rfl rfl (zmS291_2349 hk16 _ _ _ _ _ _ _ _ _ H)
          · refine zA_brF (c := (lg_cmp v58 (x46.toInt64)) = 0) rfl rfl rfl c60 ?_
            refine zA_push rfl rfl zkk7 ?_
            cases H
            exact zA_ret rfl (zret_Z (by decide))
        · refine zA_brT' (c := x31 = 0) rfl rfl rfl c50 ?_
          refine zA_tr (L := [some (zrv x0), some (zrv x1), some (zrv x2), some (zrv x3), some (zrv x4), some (zI x5), none, none, none]) rfl rfl ?_
          refine zA_go rfl rfl ?_
          exact zA_tr (L := [some (zrv x0), some (zrv x1), some (zrv x2), some (zrv x3), some (zrv x4), some (zI x5), none, none, none]) rfl rfl (zmS291_2349 hk16 _ _ _ _ _ _ _ _ _ H)
      · refine zA_brF (c := x48 = x31) rfl rfl rfl c49 ?_
        refine zA_push rfl rfl zkk7 ?_
        cases H
        exact zA_ret rfl (zret_Z (by decide))
    · cases H
      exact zA_callX (as := [zrv x2]) (st' := []) rfl rfl (zrcv_Q e43 c44) rfl (zmE137 _) rfl rfl rfl (zmS137 C)
  · cases H
    exact zA_callX (as := [zrv x2, zI v39]) (st' := []) rfl rfl (zrcv_Q e43 c44) rfl (zmE172 _ _) rfl rfl rfl (zmS172 C)
def zm291_534 (k16 : zq → zq → zq → zq → zq → Int32 → zH → zRs Int32) (x0 : zq) (x1 : zq) (x2 : zq) (x3 : zq) (x4 : zq) (x5 : Int32) (h : zH) : zRs Int32 :=
  zri x0 (x5 + (1 : Int32)) h fun v28 =>
  zb2 (zm251 x1 v28 x3 h) fun x31 h30 =>
  zri x0 (x5 + (1 : Int32)) h30 fun v39 =>
  zob 12 x2 fun p41 i42 =>
  zb (zm163 x2 v39 h30) fun x46 h45 =>
  zb (zm137 x2 h45) fun x48 h47 =>
  if x48 = x31 then
    if x31 = 0 then
      zrj x3 (0 : Int32) h47 fun v58 =>
      if (lg_cmp v58 (x46.toInt64)) = 0 then
        zm291_2349 k16 x0 x1 x2 x3 x4 x5 h47
      else
        some (.inl (0 : Int32), h47)
    else
      zm291_2349 k16 x0 x1 x2 x3 x4 x5 h47
  else
    some (.inl (0 : Int32), h47)
theorem zmS291_534 {k16 : zq → zq → zq → zq → zq → Int32 → zH → zRs Int32} (hk16 : ∀ (x0 : zq) (x1 : zq) (x2 : zq) (x3 : zq) (x4 : zq) (x5 : Int32) (h : zH) (r : Int32 ⊕ Nat) (h' : zH), k16 x0 x1 x2 x3 x4 x5 h = some (r, h') → zAt 291 16 [some (zrv x0), some (zrv x1), some (zrv x2), some (zrv x3), some (zrv x4), some (zI x5), none, none, none] [] h (zoI r) h') : ∀ (x0 : zq) (x1 : zq) (x2 : zq) (x3 : zq) (x4 : zq) (x5 : Int32) (h : zH) (r : Int32 ⊕ Nat) (h' : zH), zm291_534 k16 x0 x1 x2 x3 x4 x5 h = some (r, h') → zAt 291 534 [some (zrv x0), some (zrv x1), some (zrv x2), some (zrv x3), some (zrv x4), some (zI x5), none, none, none] [] h (zoI r) h' := by
  intro x0 x1 x2 x3 x4 x5 h r h' H
  unfold zm291_534 at H
  refine zA_aldn rfl rfl rfl ?_
  refine zA_aldn rfl rfl rfl ?_
  refine zA_ld rfl rfl rfl ?_
  refine zA_push rfl rfl zkk5 ?_
  refine zA_st (st' := [zI (x5 + (1 : Int32)), zrv x0, zrv x1]) rfl rfl rfl rfl ?_
  obtain ⟨p21, i22, j23, v28, e24, c25, c26, e27, e29, H⟩ := zri_e H
  refine zA_ial rfl rfl e24 c25 c26 e27 e29 ?_
  refine zA_aldn rfl rfl rfl ?_
  obtain ⟨x31, h30, C, H⟩ := zb2_e H
  refine zA_callV (as := [zrv x1, zI v28, zrv x3]) (st' := []) rfl rfl rfl rfl rfl (zmE251 _ _ _) rfl (zmS251 C) ?_
  refine zA_ist2 rfl rfl rfl (zset1 (L' := [some (zrv x0), some (zrv x1), some (zrv x2), some (zrv x3), some (zrv x4), some (zI x5), some (zI x31), none, none]) rfl rfl (zpcV rfl rfl)) ?_
  refine zA_aldn rfl rfl rfl ?_
  refine zA_aldn rfl rfl rfl ?_
  refine zA_ld rfl rfl rfl ?_
  refine zA_push rfl rfl zkk5 ?_
  refine zA_st (st' := [zI (x5 + (1 : Int32)), zrv x0, zrv x2]) rfl rfl rfl rfl ?_
  obtain ⟨p32, i33, j34, v39, e35, c36, c37, e38, e40, H⟩ := zri_e H
  refine zA_ial rfl rfl e35 c36 c37 e38 e40 ?_
  obtain ⟨p41, i42, e43, c44, H⟩ := zob_e H
  rcases zb_e H with ⟨x46, h45, C, H⟩ | ⟨E, h45, C, H⟩
  · refine zA_callV (as := [zrv x2, zI v39]) (st' := []) rfl rfl rfl (zrcv_Q e43 c44) rfl (zmE163 _ _) rfl (zmS163 C) ?_
    refine zA_ist2 rfl rfl rfl (zset1 (L' := [some (zrv x0), some (zrv x1), some (zrv x2), some (zrv x3), some (zrv x4), some (zI x5), some (zI x31), some (zI x46), none]) rfl rfl (zpcV rfl rfl)) ?_
    refine zA_aldn rfl rfl rfl ?_
    rcases zb_e H with ⟨x48, h47, C, H⟩ | ⟨E, h47, C, H⟩
    · refine zA_callV (as := [zrv x2]) (st' := []) rfl rfl rfl (zrcv_Q e43 c44) rfl (zmE137 _) rfl (zmS137 C) ?_
      refine zA_ld rfl rfl rfl ?_
      rcases zite_e H with ⟨c49, H⟩ | ⟨c49, H⟩
      · refine zA_brT (c := x48 = x31) rfl rfl rfl c49 ?_
        refine zA_ld rfl rfl rfl ?_
        rcases zite_e H with ⟨c50, H⟩ | ⟨c50, H⟩
        · refine zA_brF' (c := x31 = 0) rfl rfl rfl c50 ?_
          refine zA_aldn rfl rfl rfl ?_
          refine zA_push rfl rfl zkk7 ?_
          obtain ⟨p51, i52, j53, v58, e54, c55, c56, e57, e59, H⟩ := zrj_e H
          refine zA_lal rfl rfl e54 c55 c56 e57 e59 ?_
          refine zA_ld rfl rfl rfl ?_
          refine zA_st (st' := [zJ (x46.toInt64), zJ v58]) rfl rfl rfl rfl ?_
          refine zA_st (st' := [zI (lg_cmp v58 (x46.toInt64))]) rfl rfl rfl rfl ?_
          rcases zite_e H with ⟨c60, H⟩ | ⟨c60, H⟩
          · refine zA_brT (c := (lg_cmp v58 (x46.toInt64)) = 0) rfl rfl rfl c60 ?_
            refine zA_tr (L := [some (zrv x0), some (zrv x1), some (zrv x2), some (zrv x3), some (zrv x4), some (zI x5), none, none, none]) rfl rfl ?_
            refine zA_go rfl rfl ?_
            exact zA_tr (L := [some (zrv x0), some (zrv x1), some (zrv x2), some (zrv x3), some (zrv x4), some (zI x5), none, none, none]) rfl rfl (zmS291_2349 hk16 _ _ _ _ _ _ _ _ _ H)
          · refine zA_brF (c := (lg_cmp v58 (x46.toInt64)) = 0) rfl rfl rfl c60 ?_
            refine zA_push rfl rfl zkk7 ?_
            cases H
            exact zA_ret rfl (zret_Z (by decide))
        · refine zA_brT' (c := x31 = 0) rfl rfl rfl c50 ?_
          refine zA_tr (L := [some (zrv x0), some (zrv x1), some (zrv x2), some (zrv x3), some (zrv x4), some (zI x5), none, none, none]) rfl rfl ?_
          refine zA_go rfl rfl ?_
          exact zA_tr (L := [some (zrv x0), some (zrv x1), some (zrv x2), some (zrv x3), some (zrv x4), some (zI x5), none, none, none]) rfl rfl (zmS291_2349 hk16 _ _ _ _ _ _ _ _ _ H)
      · refine zA_brF (c := x48 = x31) rfl rfl rfl c49 ?_
        refine zA_push rfl rfl zkk7 ?_
        cases H
        exact zA_ret rfl (zret_Z (by decide))
    · cases H
      exact zA_callX (as := [zrv x2]) (st' := []) rfl rfl (zrcv_Q e43 c44) rfl (zmE137 _) rfl rfl rfl (zmS137 C)
  · cases H
    exact zA_callX (as := [zrv x2, zI v39]) (st' := []) rfl rfl (zrcv_Q e43 c44) rfl (zmE163 _ _) rfl rfl rfl (zmS163 C)
def zm291_499 (k16 : zq → zq → zq → zq → zq → Int32 → zH → zRs Int32) (x0 : zq) (x1 : zq) (x2 : zq) (x3 : zq) (x4 : zq) (x5 : Int32) (h : zH) : zRs Int32 :=
  zri x0 (x5 + (1 : Int32)) h fun v28 =>
  zb2 (zm250 x1 v28 x3 h) fun x31 h30 =>
  zri x0 (x5 + (1 : Int32)) h30 fun v39 =>
  zob 12 x2 fun p41 i42 =>
  zb (zm162 x2 v39 h30) fun x46 h45 =>
  zb (zm137 x2 h45) fun x48 h47 =>
  if x48 = x31 then
    if x31 = 0 then
      zrj x3 (0 : Int32) h47 fun v58 =>
      if (lg_cmp v58 (x46.toInt64)) = 0 then
        zm291_2349 k16 x0 x1 x2 x3 x4 x5 h47
      else
        some (.inl (0 : Int32), h47)
    else
      zm291_2349 k16 x0 x1 x2 x3 x4 x5 h47
  else
    some (.inl (0 : Int32), h47)
theorem zmS291_499 {k16 : zq → zq → zq → zq → zq → Int32 → zH → zRs Int32} (hk16 : ∀ (x0 : zq) (x1 : zq) (x2 : zq) (x3 : zq) (x4 : zq) (x5 : Int32) (h : zH) (r : Int32 ⊕ Nat) (h' : zH), k16 x0 x1 x2 x3 x4 x5 h = some (r, h') → zAt 291 16 [some (zrv x0), some (zrv x1), some (zrv x2), some (zrv x3), some (zrv x4), some (zI x5), none, none, none] [] h (zoI r) h') : ∀ (x0 : zq) (x1 : zq) (x2 : zq) (x3 : zq) (x4 : zq) (x5 : Int32) (h : zH) (r : Int32 ⊕ Nat) (h' : zH), zm291_499 k16 x0 x1 x2 x3 x4 x5 h = some (r, h') → zAt 291 499 [some (zrv x0), some (zrv x1), some (zrv x2), some (zrv x3), some (zrv x4), some (zI x5), none, none, none] [] h (zoI r) h' := by
  intro x0 x1 x2 x3 x4 x5 h r h' H
  unfold zm291_499 at H
  refine zA_aldn rfl rfl rfl ?_
  refine zA_aldn rfl rfl rfl ?_
  refine zA_ld rfl rfl rfl ?_
  refine zA_push rfl rfl zkk5 ?_
  refine zA_st (st' := [zI (x5 + (1 : Int32)), zrv x0, zrv x1]) rfl rfl rfl rfl ?_
  obtain ⟨p21, i22, j23, v28, e24, c25, c26, e27, e29, H⟩ := zri_e H
  refine zA_ial rfl rfl e24 c25 c26 e27 e29 ?_
  refine zA_aldn rfl rfl rfl ?_
  obtain ⟨x31, h30, C, H⟩ := zb2_e H
  refine zA_callV (as := [zrv x1, zI v28, zrv x3]) (st' := []) rfl rfl rfl rfl rfl (zmE250 _ _ _) rfl (zmS250 C) ?_
  refine zA_ist2 rfl rfl rfl (zset1 (L' := [some (zrv x0), some (zrv x1), some (zrv x2), some (zrv x3), some (zrv x4), some (zI x5), some (zI x31), none, none]) rfl rfl (zpcV rfl rfl)) ?_
  refine zA_aldn rfl rfl rfl ?_
  refine zA_aldn rfl rfl rfl ?_
  refine zA_ld rfl rfl rfl ?_
  refine zA_push rfl rfl zkk5 ?_
  refine zA_st (st' := [zI (x5 + (1 : Int32)), zrv x0, zrv x2]) rfl rfl rfl rfl ?_
  obtain ⟨p32, i33, j34, v39, e35, c36, c37, e38, e40, H⟩ := zri_e H
  refine zA_ial rfl rfl e35 c36 c37 e38 e40 ?_
  obtain ⟨p41, i42, e43, c44, H⟩ := zob_e H
  rcases zb_e H with ⟨x46, h45, C, H⟩ | ⟨E, h45, C, H⟩
  · refine zA_callV (as := [zrv x2, zI v39]) (st' := []) rfl rfl rfl (zrcv_Q e43 c44) rfl (zmE162 _ _) rfl (zmS162 C) ?_
    refine zA_ist2 rfl rfl rfl (zset1 (L' := [some (zrv x0), some (zrv x1), some (zrv x2), some (zrv x3), some (zrv x4), some (zI x5), some (zI x31), some (zI x46), none]) rfl rfl (zpcV rfl rfl)) ?_
    refine zA_aldn rfl rfl rfl ?_
    rcases zb_e H with ⟨x48, h47, C, H⟩ | ⟨E, h47, C, H⟩
    · refine zA_callV (as := [zrv x2]) (st' := []) rfl rfl rfl (zrcv_Q e43 c44) rfl (zmE137 _) rfl (zmS137 C) ?_
      refine zA_ld rfl rfl rfl ?_
      rcases zite_e H with ⟨c49, H⟩ | ⟨c49, H⟩
      · refine zA_brT (c := x48 = x31) rfl rfl rfl c49 ?_
        refine zA_ld rfl rfl rfl ?_
        rcases zite_e H with ⟨c50, H⟩ | ⟨c50, H⟩
        · refine zA_brF' (c := x31 = 0) rfl rfl rfl c50 ?_
          refine zA_aldn rfl rfl rfl ?_
          refine zA_push rfl rfl zkk7 ?_
          obtain ⟨p51, i52, j53, v58, e54, c55, c56, e57, e59, H⟩ := zrj_e H
          refine zA_lal rfl rfl e54 c55 c56 e57 e59 ?_
          refine zA_ld rfl rfl rfl ?_
          refine zA_st (st' := [zJ (x46.toInt64), zJ v58]) rfl rfl rfl rfl ?_
          refine zA_st (st' := [zI (lg_cmp v58 (x46.toInt64))]) rfl rfl rfl rfl ?_
          rcases zite_e H with ⟨c60, H⟩ | ⟨c60, H⟩
          · refine zA_brT (c := (lg_cmp v58 (x46.toInt64)) = 0) rfl rfl rfl c60 ?_
            refine zA_tr (L := [some (zrv x0), some (zrv x1), some (zrv x2), some (zrv x3), some (zrv x4), some (zI x5), none, none, none]) rfl rfl ?_
            refine zA_go rfl rfl ?_
            exact zA_tr (L := [some (zrv x0), some (zrv x1), some (zrv x2), some (zrv x3), some (zrv x4), some (zI x5), none, none, none]) rfl rfl (zmS291_2349 hk16 _ _ _ _ _ _ _ _ _ H)
          · refine zA_brF (c := (lg_cmp v58 (x46.toInt64)) = 0) rfl rfl rfl c60 ?_
            refine zA_push rfl rfl zkk7 ?_
            cases H
            exact zA_ret rfl (zret_Z (by decide))
        · refine zA_brT' (c := x31 = 0) rfl rfl rfl c50 ?_
          refine zA_tr (L := [some (zrv x0), some (zrv x1), some (zrv x2), some (zrv x3), some (zrv x4), some (zI x5), none, none, none]) rfl rfl ?_
          refine zA_go rfl rfl ?_
          exact zA_tr (L := [some (zrv x0), some (zrv x1), some (zrv x2), some (zrv x3), some (zrv x4), some (zI x5), none, none, none]) rfl rfl (zmS291_2349 hk16 _ _ _ _ _ _ _ _ _ H)
      · refine zA_brF (c := x48 = x31) rfl rfl rfl c49 ?_
        refine zA_push rfl rfl zkk7 ?_
        cases H
        exact zA_ret rfl (zret_Z (by decide))
    · cases H
      exact zA_callX (as := [zrv x2]) (st' := []) rfl rfl (zrcv_Q e43 c44) rfl (zmE137 _) rfl rfl rfl (zmS137 C)
  · cases H
    exact zA_callX (as := [zrv x2, zI v39]) (st' := []) rfl rfl (zrcv_Q e43 c44) rfl (zmE162 _ _) rfl rfl rfl (zmS162 C)
def zm291_464 (k16 : zq → zq → zq → zq → zq → Int32 → zH → zRs Int32) (x0 : zq) (x1 : zq) (x2 : zq) (x3 : zq) (x4 : zq) (x5 : Int32) (h : zH) : zRs Int32 :=
  zri x0 (x5 + (1 : Int32)) h fun v28 =>
  zb2 (zm249 x1 v28 x3 h) fun x31 h30 =>
  zri x0 (x5 + (1 : Int32)) h30 fun v39 =>
  zob 12 x2 fun p41 i42 =>
  zb (zm161 x2 v39 h30) fun x46 h45 =>
  zb (zm137 x2 h45) fun x48 h47 =>
  if x48 = x31 then
    if x31 = 0 then
      zrj x3 (0 : Int32) h47 fun v58 =>
      if (lg_cmp v58 (x46.toInt64)) = 0 then
        zm291_2349 k16 x0 x1 x2 x3 x4 x5 h47
      else
        some (.inl (0 : Int32), h47)
    else
      zm291_2349 k16 x0 x1 x2 x3 x4 x5 h47
  else
    some (.inl (0 : Int32), h47)
theorem zmS291_464 {k16 : zq → zq → zq → zq → zq → Int32 → zH → zRs Int32} (hk16 : ∀ (x0 : zq) (x1 : zq) (x2 : zq) (x3 : zq) (x4 : zq) (x5 : Int32) (h : zH) (r : Int32 ⊕ Nat) (h' : zH), k16 x0 x1 x2 x3 x4 x5 h = some (r, h') → zAt 291 16 [some (zrv x0), some (zrv x1), some (zrv x2), some (zrv x3), some (zrv x4), some (zI x5), none, none, none] [] h (zoI r) h') : ∀ (x0 : zq) (x1 : zq) (x2 : zq) (x3 : zq) (x4 : zq) (x5 : Int32) (h : zH) (r : Int32 ⊕ Nat) (h' : zH), zm291_464 k16 x0 x1 x2 x3 x4 x5 h = some (r, h') → zAt 291 464 [some (zrv x0), some (zrv x1), some (zrv x2), some (zrv x3), some (zrv x4), some (zI x5), none, none, none] [] h (zoI r) h' := by
  intro x0 x1 x2 x3 x4 x5 h r h' H
  unfold zm291_464 at H
  refine zA_aldn rfl rfl rfl ?_
  refine zA_aldn rfl rfl rfl ?_
  refine zA_ld rfl rfl rfl ?_
  refine zA_push rfl rfl zkk5 ?_
  refine zA_st (st' := [zI (x5 + (1 : Int32)), zrv x0, zrv x1]) rfl rfl rfl rfl ?_
  obtain ⟨p21, i22, j23, v28, e24, c25, c26, e27, e29, H⟩ := zri_e H
  refine zA_ial rfl rfl e24 c25 c26 e27 e29 ?_
  refine zA_aldn rfl rfl rfl ?_
  obtain ⟨x31, h30, C, H⟩ := zb2_e H
  refine zA_callV (as := [zrv x1, zI v28, zrv x3]) (st' := []) rfl rfl rfl rfl rfl (zmE249 _ _ _) rfl (zmS249 C) ?_
  refine zA_ist2 rfl rfl rfl (zset1 (L' := [some (zrv x0), some (zrv x1), some (zrv x2), some (zrv x3), some (zrv x4), some (zI x5), some (zI x31), none, none]) rfl rfl (zpcV rfl rfl)) ?_
  refine zA_aldn rfl rfl rfl ?_
  refine zA_aldn rfl rfl rfl ?_
  refine zA_ld rfl rfl rfl ?_
  refine zA_push rfl rfl zkk5 ?_
  refine zA_st (st' := [zI (x5 + (1 : Int32)), zrv x0, zrv x2]) rfl rfl rfl rfl ?_
  obtain ⟨p32, i33, j34, v39, e35, c36, c37, e38, e40, H⟩ := zri_e H
  refine zA_ial rfl rfl e35 c36 c37 e38 e40 ?_
  obtain ⟨p41, i42, e43, c44, H⟩ := zob_e H
  rcases zb_e H with ⟨x46, h45, C, H⟩ | ⟨E, h45, C, H⟩
  · refine zA_callV (as := [zrv x2, zI v39]) (st' := []) rfl rfl rfl (zrcv_Q e43 c44) rfl (zmE161 _ _) rfl (zmS161 C) ?_
    refine zA_ist2 rfl rfl rfl (zset1 (L' := [some (zrv x0), some (zrv x1), some (zrv x2), some (zrv x3), some (zrv x4), some (zI x5), some (zI x31), some (zI x46), none]) rfl rfl (zpcV rfl rfl)) ?_
    refine zA_aldn rfl rfl rfl ?_
    rcases zb_e H with ⟨x48, h47, C, H⟩ | ⟨E, h47, C, H⟩
    · refine zA_callV (as := [zrv x2]) (st' := []) rfl rfl rfl (zrcv_Q e43 c44) rfl (zmE137 _) rfl (zmS137 C) ?_
      refine zA_ld rfl rfl rfl ?_
      rcases zite_e H with ⟨c49, H⟩ | ⟨c49, H⟩
      · refine zA_brT (c := x48 = x31) rfl rfl rfl c49 ?_
        refine zA_ld rfl rfl rfl ?_
        rcases zite_e H with ⟨c50, H⟩ | ⟨c50, H⟩
        · refine zA_brF' (c := x31 = 0) rfl rfl rfl c50 ?_
          refine zA_aldn rfl rfl rfl ?_
          refine zA_push rfl rfl zkk7 ?_
          obtain ⟨p51, i52, j53, v58, e54, c55, c56, e57, e59, H⟩ := zrj_e H
          refine zA_lal rfl rfl e54 c55 c56 e57 e59 ?_
          refine zA_ld rfl rfl rfl ?_
          refine zA_st (st' := [zJ (x46.toInt64), zJ v58]) rfl rfl rfl rfl ?_
          refine zA_st (st' := [zI (lg_cmp v58 (x46.toInt64))]) rfl rfl rfl rfl ?_
          rcases zite_e H with ⟨c60, H⟩ | ⟨c60, H⟩
          · refine zA_brT (c := (lg_cmp v58 (x46.toInt64)) = 0) rfl rfl rfl c60 ?_
            refine zA_tr (L := [some (zrv x0), some (zrv x1), some (zrv x2), some (zrv x3), some (zrv x4), some (zI x5), none, none, none]) rfl rfl ?_
            refine zA_go rfl rfl ?_
            exact zA_tr (L := [some (zrv x0), some (zrv x1), some (zrv x2), some (zrv x3), some (zrv x4), some (zI x5), none, none, none]) rfl rfl (zmS291_2349 hk16 _ _ _ _ _ _ _ _ _ H)
          · refine zA_brF (c := (lg_cmp v58 (x46.toInt64)) = 0) rfl rfl rfl c60 ?_
            refine zA_push rfl rfl zkk7 ?_
            cases H
            exact zA_ret rfl (zret_Z (by decide))
        · refine zA_brT' (c := x31 = 0) rfl rfl rfl c50 ?_
          refine zA_tr (L := [some (zrv x0), some (zrv x1), some (zrv x2), some (zrv x3), some (zrv x4), some (zI x5), none, none, none]) rfl rfl ?_
          refine zA_go rfl rfl ?_
          exact zA_tr (L := [some (zrv x0), some (zrv x1), some (zrv x2), some (zrv x3), some (zrv x4), some (zI x5), none, none, none]) rfl rfl (zmS291_2349 hk16 _ _ _ _ _ _ _ _ _ H)
      · refine zA_brF (c := x48 = x31) rfl rfl rfl c49 ?_
        refine zA_push rfl rfl zkk7 ?_
        cases H
        exact zA_ret rfl (zret_Z (by decide))
    · cases H
      exact zA_callX (as := [zrv x2]) (st' := []) rfl rfl (zrcv_Q e43 c44) rfl (zmE137 _) rfl rfl rfl (zmS137 C)
  · cases H
    exact zA_callX (as := [zrv x2, zI v39]) (st' := []) rfl rfl (zrcv_Q e43 c44) rfl (zmE161 _ _) rfl rfl rfl (zmS161 C)
def zm291_419 (k16 : zq → zq → zq → zq → zq → Int32 → zH → zRs Int32) (x0 : zq) (x1 : zq) (x2 : zq) (x3 : zq) (x4 : zq) (x5 : Int32) (h : zH) : zRs Int32 :=
  zri x0 (x5 + (1 : Int32)) h fun v28 =>
  zri x0 (x5 + (2 : Int32)) h fun v37 =>
  zb2 (zm248 x1 v28 v37 x3 h) fun x40 h39 =>
  zri x0 (x5 + (1 : Int32)) h39 fun v48 =>
  zri x0 (x5 + (2 : Int32)) h39 fun v57 =>
  zob 12 x2 fun p59 i60 =>
  zb (zm160 x2 v48 v57 h39) fun x64 h63 =>
  zb (zm137 x2 h63) fun x66 h65 =>
  if x66 = x40 then
    if x40 = 0 then
      zrj x3 (0 : Int32) h65 fun v76 =>
      if (lg_cmp v76 (x64.toInt64)) = 0 then
        zm291_2349 k16 x0 x1 x2 x3 x4 x5 h65
      else
        some (.inl (0 : Int32), h65)
    else
      zm291_2349 k16 x0 x1 x2 x3 x4 x5 h65
  else
    some (.inl (0 : Int32), h65)
theorem zmS291_419 {k16 : zq → zq → zq → zq → zq → Int32 → zH → zRs Int32} (hk16 : ∀ (x0 : zq) (x1 : zq) (x2 : zq) (x3 : zq) (x4 : zq) (x5 : Int32) (h : zH) (r : Int32 ⊕ Nat) (h' : zH), k16 x0 x1 x2 x3 x4 x5 h = some (r, h') → zAt 291 16 [some (zrv x0), some (zrv x1), some (zrv x2), some (zrv x3), some (zrv x4), some (zI x5), none, none, none] [] h (zoI r) h') : ∀ (x0 : zq) (x1 : zq) (x2 : zq) (x3 : zq) (x4 : zq) (x5 : Int32) (h : zH) (r : Int32 ⊕ Nat) (h' : zH), zm291_419 k16 x0 x1 x2 x3 x4 x5 h = some (r, h') → zAt 291 419 [some (zrv x0), some (zrv x1), some (zrv x2), some (zrv x3), some (zrv x4), some (zI x5), none, none, none] [] h (zoI r) h' := by
  intro x0 x1 x2 x3 x4 x5 h r h' H
  unfold zm291_419 at H
  refine zA_aldn rfl rfl rfl ?_
  refine zA_aldn rfl rfl rfl ?_
  refine zA_ld rfl rfl rfl ?_
  refine zA_push rfl rfl zkk5 ?_
  refine zA_st (st' := [zI (x5 + (1 : Int32)), zrv x0, zrv x1]) rfl rfl rfl rfl ?_
  obtain ⟨p21, i22, j23, v28, e24, c25, c26, e27, e29, H⟩ := zri_e H
  refine zA_ial rfl rfl e24 c25 c26 e27 e29 ?_
  refine zA_aldn rfl rfl rfl ?_
  refine zA_ld rfl rfl rfl ?_
  refine zA_push rfl rfl zkk23 ?_
  refine zA_st (st' := [zI (x5 + (2 : Int32)), zrv x0, zI v28, zrv x1]) rfl rfl rfl rfl ?_
  obtain ⟨p30, i31, j32, v37, e33, c34, c35, e36, e38, H⟩ := zri_e H
  refine zA_ial rfl rfl e33 c34 c35 e36 e38 ?_
  refine zA_aldn rfl rfl rfl ?_
  obtain ⟨x40, h39, C, H⟩ := zb2_e H
  refine zA_callV (as := [zrv x1, zI v28, zI v37, zrv x3]) (st' := []) rfl rfl rfl rfl rfl (zmE248 _ _ _ _) rfl (zmS248 C) ?_
  refine zA_ist2 rfl rfl rfl (zset1 (L' := [some (zrv x0), some (zrv x1), some (zrv x2), some (zrv x3), some (zrv x4), some (zI x5), some (zI x40), none, none]) rfl rfl (zpcV rfl rfl)) ?_
  refine zA_aldn rfl rfl rfl ?_
  refine zA_aldn rfl rfl rfl ?_
  refine zA_ld rfl rfl rfl ?_
  refine zA_push rfl rfl zkk5 ?_
  refine zA_st (st' := [zI (x5 + (1 : Int32)), zrv x0, zrv x2]) rfl rfl rfl rfl ?_
  obtain ⟨p41, i42, j43, v48, e44, c45, c46, e47, e49, H⟩ := zri_e H
  refine zA_ial rfl rfl e44 c45 c46 e47 e49 ?_
  refine zA_aldn rfl rfl rfl ?_
  refine zA_ld rfl rfl rfl ?_
  refine zA_push rfl rfl zkk23 ?_
  refine zA_st (st' := [zI (x5 + (2 : Int32)), zrv x0, zI v48, zrv x2]) rfl rfl rfl rfl ?_
  obtain ⟨p50, i51, j52, v57, e53, c54, c55, e56, e58, H⟩ := zri_e H
  refine zA_ial rfl rfl e53 c54 c55 e56 e58 ?_
  obtain ⟨p59, i60, e61, c62, H⟩ := zob_e H
  rcases zb_e H with ⟨x64, h63, C, H⟩ | ⟨E, h63, C, H⟩
  · refine zA_callV (as := [zrv x2, zI v48, zI v57]) (st' := []) rfl rfl rfl (zrcv_Q e61 c62) rfl (zmE160 _ _ _) rfl (zmS160 C) ?_
    refine zA_ist2 rfl rfl rfl (zset1 (L' := [some (zrv x0), some (zrv x1), some (zrv x2), some (zrv x3), some (zrv x4), some (zI x5), some (zI x40), some (zI x64), none]) rfl rfl (zpcV rfl rfl)) ?_
    refine zA_aldn rfl rfl rfl ?_
    rcases zb_e H with ⟨x66, h65, C, H⟩ | ⟨E, h65, C, H⟩
    · refine zA_callV (as := [zrv x2]) (st' := []) rfl rfl rfl (zrcv_Q e61 c62) rfl (zmE137 _) rfl (zmS137 C) ?_
      refine zA_ld rfl rfl rfl ?_
      rcases zite_e H with ⟨c67, H⟩ | ⟨c67, H⟩
      · refine zA_brT (c := x66 = x40) rfl rfl rfl c67 ?_
        refine zA_ld rfl rfl rfl ?_
        rcases zite_e H with ⟨c68, H⟩ | ⟨c68, H⟩
        · refine zA_brF' (c := x40 = 0) rfl rfl rfl c68 ?_
          refine zA_aldn rfl rfl rfl ?_
          refine zA_push rfl rfl zkk7 ?_
          obtain ⟨p69, i70, j71, v76, e72, c73, c74, e75, e77, H⟩ := zrj_e H
          refine zA_lal rfl rfl e72 c73 c74 e75 e77 ?_
          refine zA_ld rfl rfl rfl ?_
          refine zA_st (st' := [zJ (x64.toInt64), zJ v76]) rfl rfl rfl rfl ?_
          refine zA_st (st' := [zI (lg_cmp v76 (x64.toInt64))]) rfl rfl rfl rfl ?_
          rcases zite_e H with ⟨c78, H⟩ | ⟨c78, H⟩
          · refine zA_brT (c := (lg_cmp v76 (x64.toInt64)) = 0) rfl rfl rfl c78 ?_
            refine zA_tr (L := [some (zrv x0), some (zrv x1), some (zrv x2), some (zrv x3), some (zrv x4), some (zI x5), none, none, none]) rfl rfl ?_
            refine zA_go rfl rfl ?_
            exact zA_tr (L := [some (zrv x0), some (zrv x1), some (zrv x2), some (zrv x3), some (zrv x4), some (zI x5), none, none, none]) rfl rfl (zmS291_2349 hk16 _ _ _ _ _ _ _ _ _ H)
          · refine zA_brF (c := (lg_cmp v76 (x64.toInt64)) = 0) rfl rfl rfl c78 ?_
            refine zA_push rfl rfl zkk7 ?_
            cases H
            exact zA_ret rfl (zret_Z (by decide))
        · refine zA_brT' (c := x40 = 0) rfl rfl rfl c68 ?_
          refine zA_tr (L := [some (zrv x0), some (zrv x1), some (zrv x2), some (zrv x3), some (zrv x4), some (zI x5), none, none, none]) rfl rfl ?_
          refine zA_go rfl rfl ?_
          exact zA_tr (L := [some (zrv x0), some (zrv x1), some (zrv x2), some (zrv x3), some (zrv x4), some (zI x5), none, none, none]) rfl rfl (zmS291_2349 hk16 _ _ _ _ _ _ _ _ _ H)
      · refine zA_brF (c := x66 = x40) rfl rfl rfl c67 ?_
        refine zA_push rfl rfl zkk7 ?_
        cases H
        exact zA_ret rfl (zret_Z (by decide))
    · cases H
      exact zA_callX (as := [zrv x2]) (st' := []) rfl rfl (zrcv_Q e61 c62) rfl (zmE137 _) rfl rfl rfl (zmS137 C)
  · cases H
    exact zA_callX (as := [zrv x2, zI v48, zI v57]) (st' := []) rfl rfl (zrcv_Q e61 c62) rfl (zmE160 _ _ _) rfl rfl rfl (zmS160 C)
def zm291_374 (k16 : zq → zq → zq → zq → zq → Int32 → zH → zRs Int32) (x0 : zq) (x1 : zq) (x2 : zq) (x3 : zq) (x4 : zq) (x5 : Int32) (h : zH) : zRs Int32 :=
  zri x0 (x5 + (1 : Int32)) h fun v28 =>
  zri x0 (x5 + (2 : Int32)) h fun v37 =>
  zb2 (zm247 x1 v28 v37 x3 h) fun x40 h39 =>
  zri x0 (x5 + (1 : Int32)) h39 fun v48 =>
  zri x0 (x5 + (2 : Int32)) h39 fun v57 =>
  zob 12 x2 fun p59 i60 =>
  zb (zm158 x2 v48 v57 h39) fun x64 h63 =>
  zb (zm137 x2 h63) fun x66 h65 =>
  if x66 = x40 then
    if x40 = 0 then
      zrj x3 (0 : Int32) h65 fun v76 =>
      if (lg_cmp v76 (x64.toInt64)) = 0 then
        zm291_2349 k16 x0 x1 x2 x3 x4 x5 h65
      else
        some (.inl (0 : Int32), h65)
    else
      zm291_2349 k16 x0 x1 x2 x3 x4 x5 h65
  else
    some (.inl (0 : Int32), h65)
theorem zmS291_374 {k16 : zq → zq → zq → zq → zq → Int32 → zH → zRs Int32} (hk16 : ∀ (x0 : zq) (x1 : zq) (x2 : zq) (x3 : zq) (x4 : zq) (x5 : Int32) (h : zH) (r : Int32 ⊕ Nat) (h' : zH), k16 x0 x1 x2 x3 x4 x5 h = some (r, h') → zAt 291 16 [some (zrv x0), some (zrv x1), some (zrv x2), some (zrv x3), some (zrv x4), some (zI x5), none, none, none] [] h (zoI r) h') : ∀ (x0 : zq) (x1 : zq) (x2 : zq) (x3 : zq) (x4 : zq) (x5 : Int32) (h : zH) (r : Int32 ⊕ Nat) (h' : zH), zm291_374 k16 x0 x1 x2 x3 x4 x5 h = some (r, h') → zAt 291 374 [some (zrv x0), some (zrv x1), some (zrv x2), some (zrv x3), some (zrv x4), some (zI x5), none, none, none] [] h (zoI r) h' := by
  intro x0 x1 x2 x3 x4 x5 h r h' H
  unfold zm291_374 at H
  refine zA_aldn rfl rfl rfl ?_
  refine zA_aldn rfl rfl rfl ?_
  refine zA_ld rfl rfl rfl ?_
  refine zA_push rfl rfl zkk5 ?_
  refine zA_st (st' := [zI (x5 + (1 : Int32)), zrv x0, zrv x1]) rfl rfl rfl rfl ?_
  obtain ⟨p21, i22, j23, v28, e24, c25, c26, e27, e29, H⟩ := zri_e H
  refine zA_ial rfl rfl e24 c25 c26 e27 e29 ?_
  refine zA_aldn rfl rfl rfl ?_
  refine zA_ld rfl rfl rfl ?_
  refine zA_push rfl rfl zkk23 ?_
  refine zA_st (st' := [zI (x5 + (2 : Int32)), zrv x0, zI v28, zrv x1]) rfl rfl rfl rfl ?_
  obtain ⟨p30, i31, j32, v37, e33, c34, c35, e36, e38, H⟩ := zri_e H
  refine zA_ial rfl rfl e33 c34 c35 e36 e38 ?_
  refine zA_aldn rfl rfl rfl ?_
  obtain ⟨x40, h39, C, H⟩ := zb2_e H
  refine zA_callV (as := [zrv x1, zI v28, zI v37, zrv x3]) (st' := []) rfl rfl rfl rfl rfl (zmE247 _ _ _ _) rfl (zmS247 C) ?_
  refine zA_ist2 rfl rfl rfl (zset1 (L' := [some (zrv x0), some (zrv x1), some (zrv x2), some (zrv x3), some (zrv x4), some (zI x5), some (zI x40), none, none]) rfl rfl (zpcV rfl rfl)) ?_
  refine zA_aldn rfl rfl rfl ?_
  refine zA_aldn rfl rfl rfl ?_
  refine zA_ld rfl rfl rfl ?_
  refine zA_push rfl rfl zkk5 ?_
  refine zA_st (st' := [zI (x5 + (1 : Int32)), zrv x0, zrv x2]) rfl rfl rfl rfl ?_
  obtain ⟨p41, i42, j43, v48, e44, c45, c46, e47, e49, H⟩ := zri_e H
  refine zA_ial rfl rfl e44 c45 c46 e47 e49 ?_
  refine zA_aldn rfl rfl rfl ?_
  refine zA_ld rfl rfl rfl ?_
  refine zA_push rfl rfl zkk23 ?_
  refine zA_st (st' := [zI (x5 + (2 : Int32)), zrv x0, zI v48, zrv x2]) rfl rfl rfl rfl ?_
  obtain ⟨p50, i51, j52, v57, e53, c54, c55, e56, e58, H⟩ := zri_e H
  refine zA_ial rfl rfl e53 c54 c55 e56 e58 ?_
  obtain ⟨p59, i60, e61, c62, H⟩ := zob_e H
  rcases zb_e H with ⟨x64, h63, C, H⟩ | ⟨E, h63, C, H⟩
  · refine zA_callV (as := [zrv x2, zI v48, zI v57]) (st' := []) rfl rfl rfl (zrcv_Q e61 c62) rfl (zmE158 _ _ _) rfl (zmS158 C) ?_
    refine zA_ist2 rfl rfl rfl (zset1 (L' := [some (zrv x0), some (zrv x1), some (zrv x2), some (zrv x3), some (zrv x4), some (zI x5), some (zI x40), some (zI x64), none]) rfl rfl (zpcV rfl rfl)) ?_
    refine zA_aldn rfl rfl rfl ?_
    rcases zb_e H with ⟨x66, h65, C, H⟩ | ⟨E, h65, C, H⟩
    · refine zA_callV (as := [zrv x2]) (st' := []) rfl rfl rfl (zrcv_Q e61 c62) rfl (zmE137 _) rfl (zmS137 C) ?_
      refine zA_ld rfl rfl rfl ?_
      rcases zite_e H with ⟨c67, H⟩ | ⟨c67, H⟩
      · refine zA_brT (c := x66 = x40) rfl rfl rfl c67 ?_
        refine zA_ld rfl rfl rfl ?_
        rcases zite_e H with ⟨c68, H⟩ | ⟨c68, H⟩
        · refine zA_brF' (c := x40 = 0) rfl rfl rfl c68 ?_
          refine zA_aldn rfl rfl rfl ?_
          refine zA_push rfl rfl zkk7 ?_
          obtain ⟨p69, i70, j71, v76, e72, c73, c74, e75, e77, H⟩ := zrj_e H
          refine zA_lal rfl rfl e72 c73 c74 e75 e77 ?_
          refine zA_ld rfl rfl rfl ?_
          refine zA_st (st' := [zJ (x64.toInt64), zJ v76]) rfl rfl rfl rfl ?_
          refine zA_st (st' := [zI (lg_cmp v76 (x64.toInt64))]) rfl rfl rfl rfl ?_
          rcases zite_e H with ⟨c78, H⟩ | ⟨c78, H⟩
          · refine zA_brT (c := (lg_cmp v76 (x64.toInt64)) = 0) rfl rfl rfl c78 ?_
            refine zA_tr (L := [some (zrv x0), some (zrv x1), some (zrv x2), some (zrv x3), some (zrv x4), some (zI x5), none, none, none]) rfl rfl ?_
            refine zA_go rfl rfl ?_
            exact zA_tr (L := [some (zrv x0), some (zrv x1), some (zrv x2), some (zrv x3), some (zrv x4), some (zI x5), none, none, none]) rfl rfl (zmS291_2349 hk16 _ _ _ _ _ _ _ _ _ H)
          · refine zA_brF (c := (lg_cmp v76 (x64.toInt64)) = 0) rfl rfl rfl c78 ?_
            refine zA_push rfl rfl zkk7 ?_
            cases H
            exact zA_ret rfl (zret_Z (by decide))
        · refine zA_brT' (c := x40 = 0) rfl rfl rfl c68 ?_
          refine zA_tr (L := [some (zrv x0), some (zrv x1), some (zrv x2), some (zrv x3), some (zrv x4), some (zI x5), none, none, none]) rfl rfl ?_
          refine zA_go rfl rfl ?_
          exact zA_tr (L := [some (zrv x0), some (zrv x1), some (zrv x2), some (zrv x3), some (zrv x4), some (zI x5), none, none, none]) rfl rfl (zmS291_2349 hk16 _ _ _ _ _ _ _ _ _ H)
      · refine zA_brF (c := x66 = x40) rfl rfl rfl c67 ?_
        refine zA_push rfl rfl zkk7 ?_
        cases H
        exact zA_ret rfl (zret_Z (by decide))
    · cases H
      exact zA_callX (as := [zrv x2]) (st' := []) rfl rfl (zrcv_Q e61 c62) rfl (zmE137 _) rfl rfl rfl (zmS137 C)
  · cases H
    exact zA_callX (as := [zrv x2, zI v48, zI v57]) (st' := []) rfl rfl (zrcv_Q e61 c62) rfl (zmE158 _ _ _) rfl rfl rfl (zmS158 C)
def zm291_309 (k16 : zq → zq → zq → zq → zq → Int32 → zH → zRs Int32) (x0 : zq) (x1 : zq) (x2 : zq) (x3 : zq) (x4 : zq) (x5 : Int32) (h : zH) : zRs Int32 :=
  zri x0 (x5 + (1 : Int32)) h fun v28 =>
  zri x0 (x5 + (2 : Int32)) h fun v37 =>
  zri x0 (x5 + (3 : Int32)) h fun v46 =>
  zri x0 (x5 + (4 : Int32)) h fun v55 =>
  zb2 (zm246 x1 v28 v37 v46 v55 x3 h) fun x58 h57 =>
  zri x0 (x5 + (1 : Int32)) h57 fun v66 =>
  zri x0 (x5 + (2 : Int32)) h57 fun v75 =>
  zri x0 (x5 + (3 : Int32)) h57 fun v84 =>
  zri x0 (x5 + (4 : Int32)) h57 fun v93 =>
  zob 12 x2 fun p95 i96 =>
  zb (zm155 x2 v66 v75 v84 v93 h57) fun x100 h99 =>
  zb (zm137 x2 h99) fun x102 h101 =>
  if x102 = x58 then
    if x58 = 0 then
      zrj x3 (0 : Int32) h101 fun v112 =>
      if (lg_cmp v112 (x100.toInt64)) = 0 then
        zm291_2349 k16 x0 x1 x2 x3 x4 x5 h101
      else
        some (.inl (0 : Int32), h101)
    else
      zm291_2349 k16 x0 x1 x2 x3 x4 x5 h101
  else
    some (.inl (0 : Int32), h101)
theorem zmS291_309 {k16 : zq → zq → zq → zq → zq → Int32 → zH → zRs Int32} (hk16 : ∀ (x0 : zq) (x1 : zq) (x2 : zq) (x3 : zq) (x4 : zq) (x5 : Int32) (h : zH) (r : Int32 ⊕ Nat) (h' : zH), k16 x0 x1 x2 x3 x4 x5 h = some (r, h') → zAt 291 16 [some (zrv x0), some (zrv x1), some (zrv x2), some (zrv x3), some (zrv x4), some (zI x5), none, none, none] [] h (zoI r) h') : ∀ (x0 : zq) (x1 : zq) (x2 : zq) (x3 : zq) (x4 : zq) (x5 : Int32) (h : zH) (r : Int32 ⊕ Nat) (h' : zH), zm291_309 k16 x0 x1 x2 x3 x4 x5 h = some (r, h') → zAt 291 309 [some (zrv x0), some (zrv x1), some (zrv x2), some (zrv x3), some (zrv x4), some (zI x5), none, none, none] [] h (zoI r) h' := by
  intro x0 x1 x2 x3 x4 x5 h r h' H
  unfold zm291_309 at H
  refine zA_aldn rfl rfl rfl ?_
  refine zA_aldn rfl rfl rfl ?_
  refine zA_ld rfl rfl rfl ?_
  refine zA_push rfl rfl zkk5 ?_
  refine zA_st (st' := [zI (x5 + (1 : Int32)), zrv x0, zrv x1]) rfl rfl rfl rfl ?_
  obtain ⟨p21, i22, j23, v28, e24, c25, c26, e27, e29, H⟩ := zri_e H
  refine zA_ial rfl rfl e24 c25 c26 e27 e29 ?_
  refine zA_aldn rfl rfl rfl ?_
  refine zA_ld rfl rfl rfl ?_
  refine zA_push rfl rfl zkk23 ?_
  refine zA_st (st' := [zI (x5 + (2 : Int32)), zrv x0, zI v28, zrv x1]) rfl rfl rfl rfl ?_
  obtain ⟨p30, i31, j32, v37, e33, c34, c35, e36, e38, H⟩ := zri_e H
  refine zA_ial rfl rfl e33 c34 c35 e36 e38 ?_
  refine zA_aldn rfl rfl rfl ?_
  refine zA_ld rfl rfl rfl ?_
  refine zA_push rfl rfl zkk3 ?_
  refine zA_st (st' := [zI (x5 + (3 : Int32)), zrv x0, zI v37, zI v28, zrv x1]) rfl rfl rfl rfl ?_
  obtain ⟨p39, i40, j41, v46, e42, c43, c44, e45, e47, H⟩ := zri_e H
  refine zA_ial rfl rfl e42 c43 c44 e45 e47 ?_
  refine zA_aldn rfl rfl rfl ?_
  refine zA_ld rfl rfl rfl ?_
  refine zA_push rfl rfl zkk9 ?_
  refine zA_st (st' := [zI (x5 + (4 : Int32)), zrv x0, zI v46, zI v37, zI v28, zrv x1]) rfl rfl rfl rfl ?_
  obtain ⟨p48, i49, j50, v55, e51, c52, c53, e54, e56, H⟩ := zri_e H
  refine zA_ial rfl rfl e51 c52 c53 e54 e56 ?_
  refine zA_aldn rfl rfl rfl ?_
  obtain ⟨x58, h57, C, H⟩ := zb2_e H
  refine zA_callV (as := [zrv x1, zI v28, zI v37, zI v46, zI v55, zrv x3]) (st' := []) rfl rfl rfl rfl rfl (zmE246 _ _ _ _ _ _) rfl (zmS246 C) ?_
  refine zA_ist2 rfl rfl rfl (zset1 (L' := [some (zrv x0), some (zrv x1), some (zrv x2), some (zrv x3), some (zrv x4), some (zI x5), some (zI x58), none, none]) rfl rfl (zpcV rfl rfl)) ?_
  refine zA_aldn rfl rfl rfl ?_
  refine zA_aldn rfl rfl rfl ?_
  refine zA_ld rfl rfl rfl ?_
  refine zA_push rfl rfl zkk5 ?_
  refine zA_st (st' := [zI (x5 + (1 : Int32)), zrv x0, zrv x2]) rfl rfl rfl rfl ?_
  obtain ⟨p59, i60, j61, v66, e62, c63, c64, e65, e67, H⟩ := zri_e H
  refine zA_ial rfl rfl e62 c63 c64 e65 e67 ?_
  refine zA_aldn rfl rfl rfl ?_
  refine zA_ld rfl rfl rfl ?_
  refine zA_push rfl rfl zkk23 ?_
  refine zA_st (st' := [zI (x5 + (2 : Int32)), zrv x0, zI v66, zrv x2]) rfl rfl rfl rfl ?_
  obtain ⟨p68, i69, j70, v75, e71, c72, c73, e74, e76, H⟩ := zri_e H
  refine zA_ial rfl rfl e71 c72 c73 e74 e76 ?_
  refine zA_aldn rfl rfl rfl ?_
  refine zA_ld rfl rfl rfl ?_
  refine zA_push rfl rfl zkk3 ?_
  refine zA_st (st' := [zI (x5 + (3 : Int32)), zrv x0, zI v75, zI v66, zrv x2]) rfl rfl rfl rfl ?_
  obtain ⟨p77, i78, j79, v84, e80, c81, c82, e83, e85, H⟩ := zri_e H
  refine zA_ial rfl rfl e80 c81 c82 e83 e85 ?_
  refine zA_aldn rfl rfl rfl ?_
  refine zA_ld rfl rfl rfl ?_
  refine zA_push rfl rfl zkk9 ?_
  refine zA_st (st' := [zI (x5 + (4 : Int32)), zrv x0, zI v84, zI v75, zI v66, zrv x2]) rfl rfl rfl rfl ?_
  obtain ⟨p86, i87, j88, v93, e89, c90, c91, e92, e94, H⟩ := zri_e H
  refine zA_ial rfl rfl e89 c90 c91 e92 e94 ?_
  obtain ⟨p95, i96, e97, c98, H⟩ := zob_e H
  rcases zb_e H with ⟨x100, h99, C, H⟩ | ⟨E, h99, C, H⟩
  · refine zA_callV (as := [zrv x2, zI v66, zI v75, zI v84, zI v93]) (st' := []) rfl rfl rfl (zrcv_Q e97 c98) rfl (zmE155 _ _ _ _ _) rfl (zmS155 C) ?_
    refine zA_ist2 rfl rfl rfl (zset1 (L' := [some (zrv x0), some (zrv x1), some (zrv x2), some (zrv x3), some (zrv x4), some (zI x5), some (zI x58), some (zI x100), none]) rfl rfl (zpcV rfl rfl)) ?_
    refine zA_aldn rfl rfl rfl ?_
    rcases zb_e H with ⟨x102, h101, C, H⟩ | ⟨E, h101, C, H⟩
    · refine zA_callV (as := [zrv x2]) (st' := []) rfl rfl rfl (zrcv_Q e97 c98) rfl (zmE137 _) rfl (zmS137 C) ?_
      refine zA_ld rfl rfl rfl ?_
      rcases zite_e H with ⟨c103, H⟩ | ⟨c103, H⟩
      · refine zA_brT (c := x102 = x58) rfl rfl rfl c103 ?_
        refine zA_ld rfl rfl rfl ?_
        rcases zite_e H with ⟨c104, H⟩ | ⟨c104, H⟩
        · refine zA_brF' (c := x58 = 0) rfl rfl rfl c104 ?_
          refine zA_aldn rfl rfl rfl ?_
          refine zA_push rfl rfl zkk7 ?_
          obtain ⟨p105, i106, j107, v112, e108, c109, c110, e111, e113, H⟩ := zrj_e H
          refine zA_lal rfl rfl e108 c109 c110 e111 e113 ?_
          refine zA_ld rfl rfl rfl ?_
          refine zA_st (st' := [zJ (x100.toInt64), zJ v112]) rfl rfl rfl rfl ?_
          refine zA_st (st' := [zI (lg_cmp v112 (x100.toInt64))]) rfl rfl rfl rfl ?_
          rcases zite_e H with ⟨c114, H⟩ | ⟨c114, H⟩
          · refine zA_brT (c := (lg_cmp v112 (x100.toInt64)) = 0) rfl rfl rfl c114 ?_
            refine zA_tr (L := [some (zrv x0), some (zrv x1), some (zrv x2), some (zrv x3), some (zrv x4), some (zI x5), none, none, none]) rfl rfl ?_
            refine zA_go rfl rfl ?_
            exact zA_tr (L := [some (zrv x0), some (zrv x1), some (zrv x2), some (zrv x3), some (zrv x4), some (zI x5), none, none, none]) rfl rfl (zmS291_2349 hk16 _ _ _ _ _ _ _ _ _ H)
          · refine zA_brF (c := (lg_cmp v112 (x100.toInt64)) = 0) rfl rfl rfl c114 ?_
            refine zA_push rfl rfl zkk7 ?_
            cases H
            exact zA_ret rfl (zret_Z (by decide))
        · refine zA_brT' (c := x58 = 0) rfl rfl rfl c104 ?_
          refine zA_tr (L := [some (zrv x0), some (zrv x1), some (zrv x2), some (zrv x3), some (zrv x4), some (zI x5), none, none, none]) rfl rfl ?_
          refine zA_go rfl rfl ?_
          exact zA_tr (L := [some (zrv x0), some (zrv x1), some (zrv x2), some (zrv x3), some (zrv x4), some (zI x5), none, none, none]) rfl rfl (zmS291_2349 hk16 _ _ _ _ _ _ _ _ _ H)
      · refine zA_brF (c := x102 = x58) rfl rfl rfl c103 ?_
        refine zA_push rfl rfl zkk7 ?_
        cases H
        exact zA_ret rfl (zret_Z (by decide))
    · cases H
      exact zA_callX (as := [zrv x2]) (st' := []) rfl rfl (zrcv_Q e97 c98) rfl (zmE137 _) rfl rfl rfl (zmS137 C)
  · cases H
    exact zA_callX (as := [zrv x2, zI v66, zI v75, zI v84, zI v93]) (st' := []) rfl rfl (zrcv_Q e97 c98) rfl (zmE155 _ _ _ _ _) rfl rfl rfl (zmS155 C)
def zm291_284 (k16 : zq → zq → zq → zq → zq → Int32 → zH → zRs Int32) (x0 : zq) (x1 : zq) (x2 : zq) (x3 : zq) (x4 : zq) (x5 : Int32) (h : zH) : zRs Int32 :=
  zb2 (zm245 x1 x3 h) fun x22 h21 =>
  zob 12 x2 fun p23 i24 =>
  zb (zm154 x2 h21) fun x28 h27 =>
  zb (zm137 x2 h27) fun x30 h29 =>
  if x30 = x22 then
    if x22 = 0 then
      zrj x3 (0 : Int32) h29 fun v40 =>
      if (lg_cmp v40 (x28.toInt64)) = 0 then
        zm291_2349 k16 x0 x1 x2 x3 x4 x5 h29
      else
        some (.inl (0 : Int32), h29)
    else
      zm291_2349 k16 x0 x1 x2 x3 x4 x5 h29
  else
    some (.inl (0 : Int32), h29)
theorem zmS291_284 {k16 : zq → zq → zq → zq → zq → Int32 → zH → zRs Int32} (hk16 : ∀ (x0 : zq) (x1 : zq) (x2 : zq) (x3 : zq) (x4 : zq) (x5 : Int32) (h : zH) (r : Int32 ⊕ Nat) (h' : zH), k16 x0 x1 x2 x3 x4 x5 h = some (r, h') → zAt 291 16 [some (zrv x0), some (zrv x1), some (zrv x2), some (zrv x3), some (zrv x4), some (zI x5), none, none, none] [] h (zoI r) h') : ∀ (x0 : zq) (x1 : zq) (x2 : zq) (x3 : zq) (x4 : zq) (x5 : Int32) (h : zH) (r : Int32 ⊕ Nat) (h' : zH), zm291_284 k16 x0 x1 x2 x3 x4 x5 h = some (r, h') → zAt 291 284 [some (zrv x0), some (zrv x1), some (zrv x2), some (zrv x3), some (zrv x4), some (zI x5), none, none, none] [] h (zoI r) h' := by
  intro x0 x1 x2 x3 x4 x5 h r h' H
  unfold zm291_284 at H
  refine zA_aldn rfl rfl rfl ?_
  refine zA_aldn rfl rfl rfl ?_
  obtain ⟨x22, h21, C, H⟩ := zb2_e H
  refine zA_callV (as := [zrv x1, zrv x3]) (st' := []) rfl rfl rfl rfl rfl (zmE245 _ _) rfl (zmS245 C) ?_
  refine zA_ist2 rfl rfl rfl (zset1 (L' := [some (zrv x0), some (zrv x1), some (zrv x2), some (zrv x3), some (zrv x4), some (zI x5), some (zI x22), none, none]) rfl rfl (zpcV rfl rfl)) ?_
  refine zA_aldn rfl rfl rfl ?_
  obtain ⟨p23, i24, e25, c26, H⟩ := zob_e H
  rcases zb_e H with ⟨x28, h27, C, H⟩ | ⟨E, h27, C, H⟩
  · refine zA_callV (as := [zrv x2]) (st' := []) rfl rfl rfl (zrcv_Q e25 c26) rfl (zmE154 _) rfl (zmS154 C) ?_
    refine zA_ist2 rfl rfl rfl (zset1 (L' := [some (zrv x0), some (zrv x1), some (zrv x2), some (zrv x3), some (zrv x4), some (zI x5), some (zI x22), some (zI x28), none]) rfl rfl (zpcV rfl rfl)) ?_
    refine zA_aldn rfl rfl rfl ?_
    rcases zb_e H with ⟨x30, h29, C, H⟩ | ⟨E, h29, C, H⟩
    · refine zA_callV (as := [zrv x2]) (st' := []) rfl rfl rfl (zrcv_Q e25 c26) rfl (zmE137 _) rfl (zmS137 C) ?_
      refine zA_ld rfl rfl rfl ?_
      rcases zite_e H with ⟨c31, H⟩ | ⟨c31, H⟩
      · refine zA_brT (c := x30 = x22) rfl rfl rfl c31 ?_
        refine zA_ld rfl rfl rfl ?_
        rcases zite_e H with ⟨c32, H⟩ | ⟨c32, H⟩
        · refine zA_brF' (c := x22 = 0) rfl rfl rfl c32 ?_
          refine zA_aldn rfl rfl rfl ?_
          refine zA_push rfl rfl zkk7 ?_
          obtain ⟨p33, i34, j35, v40, e36, c37, c38, e39, e41, H⟩ := zrj_e H
          refine zA_lal rfl rfl e36 c37 c38 e39 e41 ?_
          refine zA_ld rfl rfl rfl ?_
          refine zA_st (st' := [zJ (x28.toInt64), zJ v40]) rfl rfl rfl rfl ?_
          refine zA_st (st' := [zI (lg_cmp v40 (x28.toInt64))]) rfl rfl rfl rfl ?_
          rcases zite_e H with ⟨c42, H⟩ | ⟨c42, H⟩
          · refine zA_brT (c := (lg_cmp v40 (x28.toInt64)) = 0) rfl rfl rfl c42 ?_
            refine zA_tr (L := [some (zrv x0), some (zrv x1), some (zrv x2), some (zrv x3), some (zrv x4), some (zI x5), none, none, none]) rfl rfl ?_
            refine zA_go rfl rfl ?_
            exact zA_tr (L := [some (zrv x0), some (zrv x1), some (zrv x2), some (zrv x3), some (zrv x4), some (zI x5), none, none, none]) rfl rfl (zmS291_2349 hk16 _ _ _ _ _ _ _ _ _ H)
          · refine zA_brF (c := (lg_cmp v40 (x28.toInt64)) = 0) rfl rfl rfl c42 ?_
            refine zA_push rfl rfl zkk7 ?_
            cases H
            exact zA_ret rfl (zret_Z (by decide))
        · refine zA_brT' (c := x22 = 0) rfl rfl rfl c32 ?_
          refine zA_tr (L := [some (zrv x0), some (zrv x1), some (zrv x2), some (zrv x3), some (zrv x4), some (zI x5), none, none, none]) rfl rfl ?_
          refine zA_go rfl rfl ?_
          exact zA_tr (L := [some (zrv x0), some (zrv x1), some (zrv x2), some (zrv x3), some (zrv x4), some (zI x5), none, none, none]) rfl rfl (zmS291_2349 hk16 _ _ _ _ _ _ _ _ _ H)
      · refine zA_brF (c := x30 = x22) rfl rfl rfl c31 ?_
        refine zA_push rfl rfl zkk7 ?_
        cases H
        exact zA_ret rfl (zret_Z (by decide))
    · cases H
      exact zA_callX (as := [zrv x2]) (st' := []) rfl rfl (zrcv_Q e25 c26) rfl (zmE137 _) rfl rfl rfl (zmS137 C)
  · cases H
    exact zA_callX (as := [zrv x2]) (st' := []) rfl rfl (zrcv_Q e25 c26) rfl (zmE154 _) rfl rfl rfl (zmS154 C)
def zm291_277 (k16 : zq → zq → zq → zq → zq → Int32 → zH → zRs Int32) (x0 : zq) (x1 : zq) (x2 : zq) (x3 : zq) (x4 : zq) (x5 : Int32) (h : zH) : zRs Int32 :=
  zob 11 x1 fun p21 i22 =>
  zb (zm48 x1 h) fun x26 h25 =>
  zob 12 x2 fun p27 i28 =>
  zb (zm153 x2 h25) fun x32 h31 =>
  if x26 = x32 then
    zm291_2349 k16 x0 x1 x2 x3 x4 x5 h31
  else
    some (.inl (0 : Int32), h31)
theorem zmS291_277 {k16 : zq → zq → zq → zq → zq → Int32 → zH → zRs Int32} (hk16 : ∀ (x0 : zq) (x1 : zq) (x2 : zq) (x3 : zq) (x4 : zq) (x5 : Int32) (h : zH) (r : Int32 ⊕ Nat) (h' : zH), k16 x0 x1 x2 x3 x4 x5 h = some (r, h') → zAt 291 16 [some (zrv x0), some (zrv x1), some (zrv x2), some (zrv x3), some (zrv x4), some (zI x5), none, none, none] [] h (zoI r) h') : ∀ (x0 : zq) (x1 : zq) (x2 : zq) (x3 : zq) (x4 : zq) (x5 : Int32) (h : zH) (r : Int32 ⊕ Nat) (h' : zH), zm291_277 k16 x0 x1 x2 x3 x4 x5 h = some (r, h') → zAt 291 277 [some (zrv x0), some (zrv x1), some (zrv x2), some (zrv x3), some (zrv x4), some (zI x5), none, none, none] [] h (zoI r) h' := by
  intro x0 x1 x2 x3 x4 x5 h r h' H
  unfold zm291_277 at H
  refine zA_aldn rfl rfl rfl ?_
  obtain ⟨p21, i22, e23, c24, H⟩ := zob_e H
  rcases zb_e H with ⟨x26, h25, C, H⟩ | ⟨E, h25, C, H⟩
  · refine zA_callV (as := [zrv x1]) (st' := []) rfl rfl rfl (zrcv_Q e23 c24) rfl (zmE48 _) rfl (zmS48 C) ?_
    refine zA_aldn rfl rfl rfl ?_
    obtain ⟨p27, i28, e29, c30, H⟩ := zob_e H
    rcases zb_e H with ⟨x32, h31, C, H⟩ | ⟨E, h31, C, H⟩
    · refine zA_callV (as := [zrv x2]) (st' := [zI x26]) rfl rfl rfl (zrcv_Q e29 c30) rfl (zmE153 _) rfl (zmS153 C) ?_
      rcases zite_e H with ⟨c33, H⟩ | ⟨c33, H⟩
      · refine zA_brT (c := x26 = x32) rfl rfl rfl c33 ?_
        exact zA_tr (L := [some (zrv x0), some (zrv x1), some (zrv x2), some (zrv x3), some (zrv x4), some (zI x5), none, none, none]) rfl rfl (zmS291_2349 hk16 _ _ _ _ _ _ _ _ _ H)
      · refine zA_brF (c := x26 = x32) rfl rfl rfl c33 ?_
        refine zA_push rfl rfl zkk7 ?_
        cases H
        exact zA_ret rfl (zret_Z (by decide))
    · cases H
      exact zA_callX (as := [zrv x2]) (st' := [zI x26]) rfl rfl (zrcv_Q e29 c30) rfl (zmE153 _) rfl rfl rfl (zmS153 C)
  · cases H
    exact zA_callX (as := [zrv x1]) (st' := []) rfl rfl (zrcv_Q e23 c24) rfl (zmE48 _) rfl rfl rfl (zmS48 C)
def zm291_242 (k16 : zq → zq → zq → zq → zq → Int32 → zH → zRs Int32) (x0 : zq) (x1 : zq) (x2 : zq) (x3 : zq) (x4 : zq) (x5 : Int32) (h : zH) : zRs Int32 :=
  zri x0 (x5 + (1 : Int32)) h fun v28 =>
  zb2 (zm244 x1 v28 x3 h) fun x31 h30 =>
  zri x0 (x5 + (1 : Int32)) h30 fun v39 =>
  zob 12 x2 fun p41 i42 =>
  zb (zm152 x2 v39 h30) fun x46 h45 =>
  zb (zm137 x2 h45) fun x48 h47 =>
  if x48 = x31 then
    if x31 = 0 then
      zrj x3 (0 : Int32) h47 fun v58 =>
      if (lg_cmp v58 (x46.toInt64)) = 0 then
        zm291_2349 k16 x0 x1 x2 x3 x4 x5 h47
      else
        some (.inl (0 : Int32), h47)
    else
      zm291_2349 k16 x0 x1 x2 x3 x4 x5 h47
  else
    some (.inl (0 : Int32), h47)
theorem zmS291_242 {k16 : zq → zq → zq → zq → zq → Int32 → zH → zRs Int32} (hk16 : ∀ (x0 : zq) (x1 : zq) (x2 : zq) (x3 : zq) (x4 : zq) (x5 : Int32) (h : zH) (r : Int32 ⊕ Nat) (h' : zH), k16 x0 x1 x2 x3 x4 x5 h = some (r, h') → zAt 291 16 [some (zrv x0), some (zrv x1), some (zrv x2), some (zrv x3), some (zrv x4), some (zI x5), none, none, none] [] h (zoI r) h') : ∀ (x0 : zq) (x1 : zq) (x2 : zq) (x3 : zq) (x4 : zq) (x5 : Int32) (h : zH) (r : Int32 ⊕ Nat) (h' : zH), zm291_242 k16 x0 x1 x2 x3 x4 x5 h = some (r, h') → zAt 291 242 [some (zrv x0), some (zrv x1), some (zrv x2), some (zrv x3), some (zrv x4), some (zI x5), none, none, none] [] h (zoI r) h' := by
  intro x0 x1 x2 x3 x4 x5 h r h' H
  unfold zm291_242 at H
  refine zA_aldn rfl rfl rfl ?_
  refine zA_aldn rfl rfl rfl ?_
  refine zA_ld rfl rfl rfl ?_
  refine zA_push rfl rfl zkk5 ?_
  refine zA_st (st' := [zI (x5 + (1 : Int32)), zrv x0, zrv x1]) rfl rfl rfl rfl ?_
  obtain ⟨p21, i22, j23, v28, e24, c25, c26, e27, e29, H⟩ := zri_e H
  refine zA_ial rfl rfl e24 c25 c26 e27 e29 ?_
  refine zA_aldn rfl rfl rfl ?_
  obtain ⟨x31, h30, C, H⟩ := zb2_e H
  refine zA_callV (as := [zrv x1, zI v28, zrv x3]) (st' := []) rfl rfl rfl rfl rfl (zmE244 _ _ _) rfl (zmS244 C) ?_
  refine zA_ist2 rfl rfl rfl (zset1 (L' := [some (zrv x0), some (zrv x1), some (zrv x2), some (zrv x3), some (zrv x4), some (zI x5), some (zI x31), none, none]) rfl rfl (zpcV rfl rfl)) ?_
  refine zA_aldn rfl rfl rfl ?_
  refine zA_aldn rfl rfl rfl ?_
  refine zA_ld rfl rfl rfl ?_
  refine zA_push rfl rfl zkk5 ?_
  refine zA_st (st' := [zI (x5 + (1 : Int32)), zrv x0, zrv x2]) rfl rfl rfl rfl ?_
  obtain ⟨p32, i33, j34, v39, e35, c36, c37, e38, e40, H⟩ := zri_e H
  refine zA_ial rfl rfl e35 c36 c37 e38 e40 ?_
  obtain ⟨p41, i42, e43, c44, H⟩ := zob_e H
  rcases zb_e H with ⟨x46, h45, C, H⟩ | ⟨E, h45, C, H⟩
  · refine zA_callV (as := [zrv x2, zI v39]) (st' := []) rfl rfl rfl (zrcv_Q e43 c44) rfl (zmE152 _ _) rfl (zmS152 C) ?_
    refine zA_ist2 rfl rfl rfl (zset1 (L' := [some (zrv x0), some (zrv x1), some (zrv x2), some (zrv x3), some (zrv x4), some (zI x5), some (zI x31), some (zI x46), none]) rfl rfl (zpcV rfl rfl)) ?_
    refine zA_aldn rfl rfl rfl ?_
    rcases zb_e H with ⟨x48, h47, C, H⟩ | ⟨E, h47, C, H⟩
    · refine zA_callV (as := [zrv x2]) (st' := []) rfl rfl rfl (zrcv_Q e43 c44) rfl (zmE137 _) rfl (zmS137 C) ?_
      refine zA_ld rfl rfl rfl ?_
      rcases zite_e H with ⟨c49, H⟩ | ⟨c49, H⟩
      · refine zA_brT (c := x48 = x31) rfl rfl rfl c49 ?_
        refine zA_ld rfl rfl rfl ?_
        rcases zite_e H with ⟨c50, H⟩ | ⟨c50, H⟩
        · refine zA_brF' (c := x31 = 0) rfl rfl rfl c50 ?_
          refine zA_aldn rfl rfl rfl ?_
          refine zA_push rfl rfl zkk7 ?_
          obtain ⟨p51, i52, j53, v58, e54, c55, c56, e57, e59, H⟩ := zrj_e H
          refine zA_lal rfl rfl e54 c55 c56 e57 e59 ?_
          refine zA_ld rfl rfl rfl ?_
          refine zA_st (st' := [zJ (x46.toInt64), zJ v58]) rfl rfl rfl rfl ?_
          refine zA_st (st' := [zI (lg_cmp v58 (x46.toInt64))]) rfl rfl rfl rfl ?_
          rcases zite_e H with ⟨c60, H⟩ | ⟨c60, H⟩
          · refine zA_brT (c := (lg_cmp v58 (x46.toInt64)) = 0) rfl rfl rfl c60 ?_
            refine zA_tr (L := [some (zrv x0), some (zrv x1), some (zrv x2), some (zrv x3), some (zrv x4), some (zI x5), none, none, none]) rfl rfl ?_
            refine zA_go rfl rfl ?_
            exact zA_tr (L := [some (zrv x0), some (zrv x1), some (zrv x2), some (zrv x3), some (zrv x4), some (zI x5), none, none, none]) rfl rfl (zmS291_2349 hk16 _ _ _ _ _ _ _ _ _ H)
          · refine zA_brF (c := (lg_cmp v58 (x46.toInt64)) = 0) rfl rfl rfl c60 ?_
            refine zA_push rfl rfl zkk7 ?_
            cases H
            exact zA_ret rfl (zret_Z (by decide))
        · refine zA_brT' (c := x31 = 0) rfl rfl rfl c50 ?_
          refine zA_tr (L := [some (zrv x0), some (zrv x1), some (zrv x2), some (zrv x3), some (zrv x4), some (zI x5), none, none, none]) rfl rfl ?_
          refine zA_go rfl rfl ?_
          exact zA_tr (L := [some (zrv x0), some (zrv x1), some (zrv x2), some (zrv x3), some (zrv x4), some (zI x5), none, none, none]) rfl rfl (zmS291_2349 hk16 _ _ _ _ _ _ _ _ _ H)
      · refine zA_brF (c := x48 = x31) rfl rfl rfl c49 ?_
        refine zA_push rfl rfl zkk7 ?_
        cases H
        exact zA_ret rfl (zret_Z (by decide))
    · cases H
      exact zA_callX (as := [zrv x2]) (st' := []) rfl rfl (zrcv_Q e43 c44) rfl (zmE137 _) rfl rfl rfl (zmS137 C)
  · cases H
    exact zA_callX (as := [zrv x2, zI v39]) (st' := []) rfl rfl (zrcv_Q e43 c44) rfl (zmE152 _ _) rfl rfl rfl (zmS152 C)
def zm291_237 (k16 : zq → zq → zq → zq → zq → Int32 → zH → zRs Int32) (x0 : zq) (x1 : zq) (x2 : zq) (x3 : zq) (x4 : zq) (x5 : Int32) (s0 : Int64) (s1 : Int64) (h : zH) : zRs Int32 :=
  if (lg_cmp s0 s1) = 0 then
    zm291_2349 k16 x0 x1 x2 x3 x4 x5 h
  else
    some (.inl (0 : Int32), h)
theorem zmS291_237 {k16 : zq → zq → zq → zq → zq → Int32 → zH → zRs Int32} (hk16 : ∀ (x0 : zq) (x1 : zq) (x2 : zq) (x3 : zq) (x4 : zq) (x5 : Int32) (h : zH) (r : Int32 ⊕ Nat) (h' : zH), k16 x0 x1 x2 x3 x4 x5 h = some (r, h') → zAt 291 16 [some (zrv x0), some (zrv x1), some (zrv x2), some (zrv x3), some (zrv x4), some (zI x5), none, none, none] [] h (zoI r) h') : ∀ (x0 : zq) (x1 : zq) (x2 : zq) (x3 : zq) (x4 : zq) (x5 : Int32) (s0 : Int64) (s1 : Int64) (h : zH) (r : Int32 ⊕ Nat) (h' : zH), zm291_237 k16 x0 x1 x2 x3 x4 x5 s0 s1 h = some (r, h') → zAt 291 237 [some (zrv x0), some (zrv x1), some (zrv x2), some (zrv x3), some (zrv x4), some (zI x5), none, none, none] [zJ s1, zJ s0] h (zoI r) h' := by
  intro x0 x1 x2 x3 x4 x5 s0 s1 h r h' H
  unfold zm291_237 at H
  refine zA_st (st' := [zI (lg_cmp s0 s1)]) rfl rfl rfl rfl ?_
  rcases zite_e H with ⟨c21, H⟩ | ⟨c21, H⟩
  · refine zA_brT (c := (lg_cmp s0 s1) = 0) rfl rfl rfl c21 ?_
    refine zA_go rfl rfl ?_
    exact zA_tr (L := [some (zrv x0), some (zrv x1), some (zrv x2), some (zrv x3), some (zrv x4), some (zI x5), none, none, none]) rfl rfl (zmS291_2349 hk16 _ _ _ _ _ _ _ _ _ H)
  · refine zA_brF (c := (lg_cmp s0 s1) = 0) rfl rfl rfl c21 ?_
    refine zA_push rfl rfl zkk7 ?_
    cases H
    exact zA_ret rfl (zret_Z (by decide))
def zm291_204 (k16 : zq → zq → zq → zq → zq → Int32 → zH → zRs Int32) (x0 : zq) (x1 : zq) (x2 : zq) (x3 : zq) (x4 : zq) (x5 : Int32) (h : zH) : zRs Int32 :=
  zri x0 (x5 + (1 : Int32)) h fun v28 =>
  zb2 (zm243 x1 v28 x3 h) fun x31 h30 =>
  zri x0 (x5 + (1 : Int32)) h30 fun v39 =>
  zob 12 x2 fun p41 i42 =>
  zb (zm149 x2 v39 h30) fun x46 h45 =>
  zb (zm137 x2 h45) fun x48 h47 =>
  if x48 = x31 then
    if x31 = 0 then
      zrj x3 (0 : Int32) h47 fun v58 =>
      if x46 = 0 then
        zm291_237 k16 x0 x1 x2 x3 x4 x5 v58 (0 : Int64) h47
      else
        zm291_237 k16 x0 x1 x2 x3 x4 x5 v58 (1 : Int64) h47
    else
      zm291_2349 k16 x0 x1 x2 x3 x4 x5 h47
  else
    some (.inl (0 : Int32), h47)
theorem zmS291_204 {k16 : zq → zq → zq → zq → zq → Int32 → zH → zRs Int32} (hk16 : ∀ (x0 : zq) (x1 : zq) (x2 : zq) (x3 : zq) (x4 : zq) (x5 : Int32) (h : zH) (r : Int32 ⊕ Nat) (h' : zH), k16 x0 x1 x2 x3 x4 x5 h = some (r, h') → zAt 291 16 [some (zrv x0), some (zrv x1), some (zrv x2), some (zrv x3), some (zrv x4), some (zI x5), none, none, none] [] h (zoI r) h') : ∀ (x0 : zq) (x1 : zq) (x2 : zq) (x3 : zq) (x4 : zq) (x5 : Int32) (h : zH) (r : Int32 ⊕ Nat) (h' : zH), zm291_204 k16 x0 x1 x2 x3 x4 x5 h = some (r, h') → zAt 291 204 [some (zrv x0), some (zrv x1), some (zrv x2), some (zrv x3), some (zrv x4), some (zI x5), none, none, none] [] h (zoI r) h' := by
  intro x0 x1 x2 x3 x4 x5 h r h' H
  unfold zm291_204 at H
  refine zA_aldn rfl rfl rfl ?_
  refine zA_aldn rfl rfl rfl ?_
  refine zA_ld rfl rfl rfl ?_
  refine zA_push rfl rfl zkk5 ?_
  refine zA_st (st' := [zI (x5 + (1 : Int32)), zrv x0, zrv x1]) rfl rfl rfl rfl ?_
  obtain ⟨p21, i22, j23, v28, e24, c25, c26, e27, e29, H⟩ := zri_e H
  refine zA_ial rfl rfl e24 c25 c26 e27 e29 ?_
  refine zA_aldn rfl rfl rfl ?_
  obtain ⟨x31, h30, C, H⟩ := zb2_e H
  refine zA_callV (as := [zrv x1, zI v28, zrv x3]) (st' := []) rfl rfl rfl rfl rfl (zmE243 _ _ _) rfl (zmS243 C) ?_
  refine zA_ist2 rfl rfl rfl (zset1 (L' := [some (zrv x0), some (zrv x1), some (zrv x2), some (zrv x3), some (zrv x4), some (zI x5), some (zI x31), none, none]) rfl rfl (zpcV rfl rfl)) ?_
  refine zA_aldn rfl rfl rfl ?_
  refine zA_aldn rfl rfl rfl ?_
  refine zA_ld rfl rfl rfl ?_
  refine zA_push rfl rfl zkk5 ?_
  refine zA_st (st' := [zI (x5 + (1 : Int32)), zrv x0, zrv x2]) rfl rfl rfl rfl ?_
  obtain ⟨p32, i33, j34, v39, e35, c36, c37, e38, e40, H⟩ := zri_e H
  refine zA_ial rfl rfl e35 c36 c37 e38 e40 ?_
  obtain ⟨p41, i42, e43, c44, H⟩ := zob_e H
  rcases zb_e H with ⟨x46, h45, C, H⟩ | ⟨E, h45, C, H⟩
  · refine zA_callV (as := [zrv x2, zI v39]) (st' := []) rfl rfl rfl (zrcv_Q e43 c44) rfl (zmE149 _ _) rfl (zmS149 C) ?_
    refine zA_ist2 rfl rfl rfl (zset1 (L' := [some (zrv x0), some (zrv x1), some (zrv x2), some (zrv x3), some (zrv x4), some (zI x5), some (zI x31), some (zI x46), none]) rfl rfl (zpcV rfl rfl)) ?_
    refine zA_aldn rfl rfl rfl ?_
    rcases zb_e H with ⟨x48, h47, C, H⟩ | ⟨E, h47, C, H⟩
    · refine zA_callV (as := [zrv x2]) (st' := []) rfl rfl rfl (zrcv_Q e43 c44) rfl (zmE137 _) rfl (zmS137 C) ?_
      refine zA_ld rfl rfl rfl ?_
      rcases zite_e H with ⟨c49, H⟩ | ⟨c49, H⟩
      · refine zA_brT (c := x48 = x31) rfl rfl rfl c49 ?_
        refine zA_ld rfl rfl rfl ?_
        rcases zite_e H with ⟨c50, H⟩ | ⟨c50, H⟩
        · refine zA_brF' (c := x31 = 0) rfl rfl rfl c50 ?_
          refine zA_aldn rfl rfl rfl ?_
          refine zA_push rfl rfl zkk7 ?_
          obtain ⟨p51, i52, j53, v58, e54, c55, c56, e57, e59, H⟩ := zrj_e H
          refine zA_lal rfl rfl e54 c55 c56 e57 e59 ?_
          refine zA_ld rfl rfl rfl ?_
          rcases zite_e H with ⟨c60, H⟩ | ⟨c60, H⟩
          · refine zA_brT (c := x46 = 0) rfl rfl rfl c60 ?_
            refine zA_tr (L := [some (zrv x0), some (zrv x1), some (zrv x2), some (zrv x3), some (zrv x4), some (zI x5), none, none, none]) rfl rfl ?_
            refine zA_push rfl rfl zkk24 ?_
            exact zA_tr (L := [some (zrv x0), some (zrv x1), some (zrv x2), some (zrv x3), some (zrv x4), some (zI x5), none, none, none]) rfl rfl (zmS291_237 hk16 _ _ _ _ _ _ _ _ _ _ _ H)
          · refine zA_brF (c := x46 = 0) rfl rfl rfl c60 ?_
            refine zA_push rfl rfl zkk25 ?_
            refine zA_go rfl rfl ?_
            exact zA_tr (L := [some (zrv x0), some (zrv x1), some (zrv x2), some (zrv x3), some (zrv x4), some (zI x5), none, none, none]) rfl rfl (zmS291_237 hk16 _ _ _ _ _ _ _ _ _ _ _ H)
        · refine zA_brT' (c := x31 = 0) rfl rfl rfl c50 ?_
          refine zA_tr (L := [some (zrv x0), some (zrv x1), some (zrv x2), some (zrv x3), some (zrv x4), some (zI x5), none, none, none]) rfl rfl ?_
          refine zA_go rfl rfl ?_
          exact zA_tr (L := [some (zrv x0), some (zrv x1), some (zrv x2), some (zrv x3), some (zrv x4), some (zI x5), none, none, none]) rfl rfl (zmS291_2349 hk16 _ _ _ _ _ _ _ _ _ H)
      · refine zA_brF (c := x48 = x31) rfl rfl rfl c49 ?_
        refine zA_push rfl rfl zkk7 ?_
        cases H
        exact zA_ret rfl (zret_Z (by decide))
    · cases H
      exact zA_callX (as := [zrv x2]) (st' := []) rfl rfl (zrcv_Q e43 c44) rfl (zmE137 _) rfl rfl rfl (zmS137 C)
  · cases H
    exact zA_callX (as := [zrv x2, zI v39]) (st' := []) rfl rfl (zrcv_Q e43 c44) rfl (zmE149 _ _) rfl rfl rfl (zmS149 C)
def zm291_159 (k16 : zq → zq → zq → zq → zq → Int32 → zH → zRs Int32) (x0 : zq) (x1 : zq) (x2 : zq) (x3 : zq) (x4 : zq) (x5 : Int32) (h : zH) : zRs Int32 :=
  zri x0 (x5 + (1 : Int32)) h fun v28 =>
  zri x0 (x5 + (2 : Int32)) h fun v37 =>
  zb2 (zm242 x1 v28 v37 x3 h) fun x40 h39 =>
  zri x0 (x5 + (1 : Int32)) h39 fun v48 =>
  zri x0 (x5 + (2 : Int32)) h39 fun v57 =>
  zob 12 x2 fun p59 i60 =>
  zb (zm147 x2 v48 v57 h39) fun x64 h63 =>
  zb (zm137 x2 h63) fun x66 h65 =>
  if x66 = x40 then
    if x40 = 0 then
      zrj x3 (0 : Int32) h65 fun v76 =>
      if (lg_cmp v76 (x64.toInt64)) = 0 then
        zm291_2349 k16 x0 x1 x2 x3 x4 x5 h65
      else
        some (.inl (0 : Int32), h65)
    else
      zm291_2349 k16 x0 x1 x2 x3 x4 x5 h65
  else
    some (.inl (0 : Int32), h65)
theorem zmS291_159 {k16 : zq → zq → zq → zq → zq → Int32 → zH → zRs Int32} (hk16 : ∀ (x0 : zq) (x1 : zq) (x2 : zq) (x3 : zq) (x4 : zq) (x5 : Int32) (h : zH) (r : Int32 ⊕ Nat) (h' : zH), k16 x0 x1 x2 x3 x4 x5 h = some (r, h') → zAt 291 16 [some (zrv x0), some (zrv x1), some (zrv x2), some (zrv x3), some (zrv x4), some (zI x5), none, none, none] [] h (zoI r) h') : ∀ (x0 : zq) (x1 : zq) (x2 : zq) (x3 : zq) (x4 : zq) (x5 : Int32) (h : zH) (r : Int32 ⊕ Nat) (h' : zH), zm291_159 k16 x0 x1 x2 x3 x4 x5 h = some (r, h') → zAt 291 159 [some (zrv x0), some (zrv x1), some (zrv x2), some (zrv x3), some (zrv x4), some (zI x5), none, none, none] [] h (zoI r) h' := by
  intro x0 x1 x2 x3 x4 x5 h r h' H
  unfold zm291_159 at H
  refine zA_aldn rfl rfl rfl ?_
  refine zA_aldn rfl rfl rfl ?_
  refine zA_ld rfl rfl rfl ?_
  refine zA_push rfl rfl zkk5 ?_
  refine zA_st (st' := [zI (x5 + (1 : Int32)), zrv x0, zrv x1]) rfl rfl rfl rfl ?_
  obtain ⟨p21, i22, j23, v28, e24, c25, c26, e27, e29, H⟩ := zri_e H
  refine zA_ial rfl rfl e24 c25 c26 e27 e29 ?_
  refine zA_aldn rfl rfl rfl ?_
  refine zA_ld rfl rfl rfl ?_
  refine zA_push rfl rfl zkk23 ?_
  refine zA_st (st' := [zI (x5 + (2 : Int32)), zrv x0, zI v28, zrv x1]) rfl rfl rfl rfl ?_
  obtain ⟨p30, i31, j32, v37, e33, c34, c35, e36, e38, H⟩ := zri_e H
  refine zA_ial rfl rfl e33 c34 c35 e36 e38 ?_
  refine zA_aldn rfl rfl rfl ?_
  obtain ⟨x40, h39, C, H⟩ := zb2_e H
  refine zA_callV (as := [zrv x1, zI v28, zI v37, zrv x3]) (st' := []) rfl rfl rfl rfl rfl (zmE242 _ _ _ _) rfl (zmS242 C) ?_
  refine zA_ist2 rfl rfl rfl (zset1 (L' := [some (zrv x0), some (zrv x1), some (zrv x2), some (zrv x3), some (zrv x4), some (zI x5), some (zI x40), none, none]) rfl rfl (zpcV rfl rfl)) ?_
  refine zA_aldn rfl rfl rfl ?_
  refine zA_aldn rfl rfl rfl ?_
  refine zA_ld rfl rfl rfl ?_
  refine zA_push rfl rfl zkk5 ?_
  refine zA_st (st' := [zI (x5 + (1 : Int32)), zrv x0, zrv x2]) rfl rfl rfl rfl ?_
  obtain ⟨p41, i42, j43, v48, e44, c45, c46, e47, e49, H⟩ := zri_e H
  refine zA_ial rfl rfl e44 c45 c46 e47 e49 ?_
  refine zA_aldn rfl rfl rfl ?_
  refine zA_ld rfl rfl rfl ?_
  refine zA_push rfl rfl zkk23 ?_
  refine zA_st (st' := [zI (x5 + (2 : Int32)), zrv x0, zI v48, zrv x2]) rfl rfl rfl rfl ?_
  obtain ⟨p50, i51, j52, v57, e53, c54, c55, e56, e58, H⟩ := zri_e H
  refine zA_ial rfl rfl e53 c54 c55 e56 e58 ?_
  obtain ⟨p59, i60, e61, c62, H⟩ := zob_e H
  rcases zb_e H with ⟨x64, h63, C, H⟩ | ⟨E, h63, C, H⟩
  · refine zA_callV (as := [zrv x2, zI v48, zI v57]) (st' := []) rfl rfl rfl (zrcv_Q e61 c62) rfl (zmE147 _ _ _) rfl (zmS147 C) ?_
    refine zA_ist2 rfl rfl rfl (zset1 (L' := [some (zrv x0), some (zrv x1), some (zrv x2), some (zrv x3), some (zrv x4), some (zI x5), some (zI x40), some (zI x64), none]) rfl rfl (zpcV rfl rfl)) ?_
    refine zA_aldn rfl rfl rfl ?_
    rcases zb_e H with ⟨x66, h65, C, H⟩ | ⟨E, h65, C, H⟩
    · refine zA_callV (as := [zrv x2]) (st' := []) rfl rfl rfl (zrcv_Q e61 c62) rfl (zmE137 _) rfl (zmS137 C) ?_
      refine zA_ld rfl rfl rfl ?_
      rcases zite_e H with ⟨c67, H⟩ | ⟨c67, H⟩
      · refine zA_brT (c := x66 = x40) rfl rfl rfl c67 ?_
        refine zA_ld rfl rfl rfl ?_
        rcases zite_e H with ⟨c68, H⟩ | ⟨c68, H⟩
        · refine zA_brF' (c := x40 = 0) rfl rfl rfl c68 ?_
          refine zA_aldn rfl rfl rfl ?_
          refine zA_push rfl rfl zkk7 ?_
          obtain ⟨p69, i70, j71, v76, e72, c73, c74, e75, e77, H⟩ := zrj_e H
          refine zA_lal rfl rfl e72 c73 c74 e75 e77 ?_
          refine zA_ld rfl rfl rfl ?_
          refine zA_st (st' := [zJ (x64.toInt64), zJ v76]) rfl rfl rfl rfl ?_
          refine zA_st (st' := [zI (lg_cmp v76 (x64.toInt64))]) rfl rfl rfl rfl ?_
          rcases zite_e H with ⟨c78, H⟩ | ⟨c78, H⟩
          · refine zA_brT (c := (lg_cmp v76 (x64.toInt64)) = 0) rfl rfl rfl c78 ?_
            refine zA_tr (L := [some (zrv x0), some (zrv x1), some (zrv x2), some (zrv x3), some (zrv x4), some (zI x5), none, none, none]) rfl rfl ?_
            refine zA_go rfl rfl ?_
            exact zA_tr (L := [some (zrv x0), some (zrv x1), some (zrv x2), some (zrv x3), some (zrv x4), some (zI x5), none, none, none]) rfl rfl (zmS291_2349 hk16 _ _ _ _ _ _ _ _ _ H)
          · refine zA_brF (c := (lg_cmp v76 (x64.toInt64)) = 0) rfl rfl rfl c78 ?_
            refine zA_push rfl rfl zkk7 ?_
            cases H
            exact zA_ret rfl (zret_Z (by decide))
        · refine zA_brT' (c := x40 = 0) rfl rfl rfl c68 ?_
          refine zA_tr (L := [some (zrv x0), some (zrv x1), some (zrv x2), some (zrv x3), some (zrv x4), some (zI x5), none, none, none]) rfl rfl ?_
          refine zA_go rfl rfl ?_
          exact zA_tr (L := [some (zrv x0), some (zrv x1), some (zrv x2), some (zrv x3), some (zrv x4), some (zI x5), none, none, none]) rfl rfl (zmS291_2349 hk16 _ _ _ _ _ _ _ _ _ H)
      · refine zA_brF (c := x66 = x40) rfl rfl rfl c67 ?_
        refine zA_push rfl rfl zkk7 ?_
        cases H
        exact zA_ret rfl (zret_Z (by decide))
    · cases H
      exact zA_callX (as := [zrv x2]) (st' := []) rfl rfl (zrcv_Q e61 c62) rfl (zmE137 _) rfl rfl rfl (zmS137 C)
  · cases H
    exact zA_callX (as := [zrv x2, zI v48, zI v57]) (st' := []) rfl rfl (zrcv_Q e61 c62) rfl (zmE147 _ _ _) rfl rfl rfl (zmS147 C)
def zm291_139 (k16 : zq → zq → zq → zq → zq → Int32 → zH → zRs Int32) (x0 : zq) (x1 : zq) (x2 : zq) (x3 : zq) (x4 : zq) (x5 : Int32) (x6 : Int32) (s0 : zq) (s1 : Int32) (s2 : Int32) (s3 : Int32) (s4 : Int32) (s5 : Int32) (s6 : Int32) (s7 : Int32) (s8 : Int32) (s9 : Int32) (h : zH) : zRs Int32 :=
  zob 12 s0 fun p21 i22 =>
  zb (zm145 s0 s1 s2 s3 s4 s5 s6 s7 s8 s9 h) fun x26 h25 =>
  zob 12 x2 fun p27 i28 =>
  zb (zm137 x2 h25) fun x32 h31 =>
  if x32 = x6 then
    if x6 = 0 then
      zrj x3 (0 : Int32) h31 fun v42 =>
      if (lg_cmp v42 (x26.toInt64)) = 0 then
        zm291_2349 k16 x0 x1 x2 x3 x4 x5 h31
      else
        some (.inl (0 : Int32), h31)
    else
      zm291_2349 k16 x0 x1 x2 x3 x4 x5 h31
  else
    some (.inl (0 : Int32), h31)
theorem zmS291_139 {k16 : zq → zq → zq → zq → zq → Int32 → zH → zRs Int32} (hk16 : ∀ (x0 : zq) (x1 : zq) (x2 : zq) (x3 : zq) (x4 : zq) (x5 : Int32) (h : zH) (r : Int32 ⊕ Nat) (h' : zH), k16 x0 x1 x2 x3 x4 x5 h = some (r, h') → zAt 291 16 [some (zrv x0), some (zrv x1), some (zrv x2), some (zrv x3), some (zrv x4), some (zI x5), none, none, none] [] h (zoI r) h') : ∀ (x0 : zq) (x1 : zq) (x2 : zq) (x3 : zq) (x4 : zq) (x5 : Int32) (x6 : Int32) (s0 : zq) (s1 : Int32) (s2 : Int32) (s3 : Int32) (s4 : Int32) (s5 : Int32) (s6 : Int32) (s7 : Int32) (s8 : Int32) (s9 : Int32) (h : zH) (r : Int32 ⊕ Nat) (h' : zH), zm291_139 k16 x0 x1 x2 x3 x4 x5 x6 s0 s1 s2 s3 s4 s5 s6 s7 s8 s9 h = some (r, h') → zAt 291 139 [some (zrv x0), some (zrv x1), some (zrv x2), some (zrv x3), some (zrv x4), some (zI x5), some (zI x6), none, none] [zI s9, zI s8, zI s7, zI s6, zI s5, zI s4, zI s3, zI s2, zI s1, zrv s0] h (zoI r) h' := by
  intro x0 x1 x2 x3 x4 x5 x6 s0 s1 s2 s3 s4 s5 s6 s7 s8 s9 h r h' H
  unfold zm291_139 at H
  obtain ⟨p21, i22, e23, c24, H⟩ := zob_e H
  rcases zb_e H with ⟨x26, h25, C, H⟩ | ⟨E, h25, C, H⟩
  · refine zA_callV (as := [zrv s0, zI s1, zI s2, zI s3, zI s4, zI s5, zI s6, zI s7, zI s8, zI s9]) (st' := []) rfl rfl rfl (zrcv_Q e23 c24) rfl (zmE145 _ _ _ _ _ _ _ _ _ _) rfl (zmS145 C) ?_
    refine zA_ist2 rfl rfl rfl (zset1 (L' := [some (zrv x0), some (zrv x1), some (zrv x2), some (zrv x3), some (zrv x4), some (zI x5), some (zI x6), some (zI x26), none]) rfl rfl (zpcV rfl rfl)) ?_
    refine zA_aldn rfl rfl rfl ?_
    obtain ⟨p27, i28, e29, c30, H⟩ := zob_e H
    rcases zb_e H with ⟨x32, h31, C, H⟩ | ⟨E, h31, C, H⟩
    · refine zA_callV (as := [zrv x2]) (st' := []) rfl rfl rfl (zrcv_Q e29 c30) rfl (zmE137 _) rfl (zmS137 C) ?_
      refine zA_ld rfl rfl rfl ?_
      rcases zite_e H with ⟨c33, H⟩ | ⟨c33, H⟩
      · refine zA_brT (c := x32 = x6) rfl rfl rfl c33 ?_
        refine zA_ld rfl rfl rfl ?_
        rcases zite_e H with ⟨c34, H⟩ | ⟨c34, H⟩
        · refine zA_brF' (c := x6 = 0) rfl rfl rfl c34 ?_
          refine zA_aldn rfl rfl rfl ?_
          refine zA_push rfl rfl zkk7 ?_
          obtain ⟨p35, i36, j37, v42, e38, c39, c40, e41, e43, H⟩ := zrj_e H
          refine zA_lal rfl rfl e38 c39 c40 e41 e43 ?_
          refine zA_ld rfl rfl rfl ?_
          refine zA_st (st' := [zJ (x26.toInt64), zJ v42]) rfl rfl rfl rfl ?_
          refine zA_st (st' := [zI (lg_cmp v42 (x26.toInt64))]) rfl rfl rfl rfl ?_
          rcases zite_e H with ⟨c44, H⟩ | ⟨c44, H⟩
          · refine zA_brT (c := (lg_cmp v42 (x26.toInt64)) = 0) rfl rfl rfl c44 ?_
            refine zA_tr (L := [some (zrv x0), some (zrv x1), some (zrv x2), some (zrv x3), some (zrv x4), some (zI x5), none, none, none]) rfl rfl ?_
            refine zA_go rfl rfl ?_
            exact zA_tr (L := [some (zrv x0), some (zrv x1), some (zrv x2), some (zrv x3), some (zrv x4), some (zI x5), none, none, none]) rfl rfl (zmS291_2349 hk16 _ _ _ _ _ _ _ _ _ H)
          · refine zA_brF (c := (lg_cmp v42 (x26.toInt64)) = 0) rfl rfl rfl c44 ?_
            refine zA_push rfl rfl zkk7 ?_
            cases H
            exact zA_ret rfl (zret_Z (by decide))
        · refine zA_brT' (c := x6 = 0) rfl rfl rfl c34 ?_
          refine zA_tr (L := [some (zrv x0), some (zrv x1), some (zrv x2), some (zrv x3), some (zrv x4), some (zI x5), none, none, none]) rfl rfl ?_
          refine zA_go rfl rfl ?_
          exact zA_tr (L := [some (zrv x0), some (zrv x1), some (zrv x2), some (zrv x3), some (zrv x4), some (zI x5), none, none, none]) rfl rfl (zmS291_2349 hk16 _ _ _ _ _ _ _ _ _ H)
      · refine zA_brF (c := x32 = x6) rfl rfl rfl c33 ?_
        refine zA_push rfl rfl zkk7 ?_
        cases H
        exact zA_ret rfl (zret_Z (by decide))
    · cases H
      exact zA_callX (as := [zrv x2]) (st' := []) rfl rfl (zrcv_Q e29 c30) rfl (zmE137 _) rfl rfl rfl (zmS137 C)
  · cases H
    exact zA_callX (as := [zrv s0, zI s1, zI s2, zI s3, zI s4, zI s5, zI s6, zI s7, zI s8, zI s9]) (st' := []) rfl rfl (zrcv_Q e23 c24) rfl (zmE145 _ _ _ _ _ _ _ _ _ _) rfl rfl rfl (zmS145 C)
def zm291_130 (k16 : zq → zq → zq → zq → zq → Int32 → zH → zRs Int32) (x0 : zq) (x1 : zq) (x2 : zq) (x3 : zq) (x4 : zq) (x5 : Int32) (x6 : Int32) (s0 : zq) (s1 : Int32) (s2 : Int32) (s3 : Int32) (s4 : Int32) (s5 : Int32) (s6 : Int32) (s7 : Int32) (s8 : Int32) (h : zH) : zRs Int32 :=
  zri x0 (x5 + (9 : Int32)) h fun v28 =>
  if v28 = 0 then
    zm291_139 k16 x0 x1 x2 x3 x4 x5 x6 s0 s1 s2 s3 s4 s5 s6 s7 s8 (0 : Int32) h
  else
    zm291_139 k16 x0 x1 x2 x3 x4 x5 x6 s0 s1 s2 s3 s4 s5 s6 s7 s8 (1 : Int32) h
theorem zmS291_130 {k16 : zq → zq → zq → zq → zq → Int32 → zH → zRs Int32} (hk16 : ∀ (x0 : zq) (x1 : zq) (x2 : zq) (x3 : zq) (x4 : zq) (x5 : Int32) (h : zH) (r : Int32 ⊕ Nat) (h' : zH), k16 x0 x1 x2 x3 x4 x5 h = some (r, h') → zAt 291 16 [some (zrv x0), some (zrv x1), some (zrv x2), some (zrv x3), some (zrv x4), some (zI x5), none, none, none] [] h (zoI r) h') : ∀ (x0 : zq) (x1 : zq) (x2 : zq) (x3 : zq) (x4 : zq) (x5 : Int32) (x6 : Int32) (s0 : zq) (s1 : Int32) (s2 : Int32) (s3 : Int32) (s4 : Int32) (s5 : Int32) (s6 : Int32) (s7 : Int32) (s8 : Int32) (h : zH) (r : Int32 ⊕ Nat) (h' : zH), zm291_130 k16 x0 x1 x2 x3 x4 x5 x6 s0 s1 s2 s3 s4 s5 s6 s7 s8 h = some (r, h') → zAt 291 130 [some (zrv x0), some (zrv x1), some (zrv x2), some (zrv x3), some (zrv x4), some (zI x5), some (zI x6), none, none] [zI s8, zI s7, zI s6, zI s5, zI s4, zI s3, zI s2, zI s1, zrv s0] h (zoI r) h' := by
  intro x0 x1 x2 x3 x4 x5 x6 s0 s1 s2 s3 s4 s5 s6 s7 s8 h r h' H
  unfold zm291_130 at H
  refine zA_aldn rfl rfl rfl ?_
  refine zA_ld rfl rfl rfl ?_
  refine zA_push rfl rfl zkk19 ?_
  refine zA_st (st' := [zI (x5 + (9 : Int32)), zrv x0, zI s8, zI s7, zI s6, zI s5, zI s4, zI s3, zI s2, zI s1, zrv s0]) rfl rfl rfl rfl ?_
  obtain ⟨p21, i22, j23, v28, e24, c25, c26, e27, e29, H⟩ := zri_e H
  refine zA_ial rfl rfl e24 c25 c26 e27 e29 ?_
  rcases zite_e H with ⟨c30, H⟩ | ⟨c30, H⟩
  · refine zA_brT (c := v28 = 0) rfl rfl rfl c30 ?_
    refine zA_push rfl rfl zkk7 ?_
    exact zA_tr (L := [some (zrv x0), some (zrv x1), some (zrv x2), some (zrv x3), some (zrv x4), some (zI x5), some (zI x6), none, none]) rfl rfl (zmS291_139 hk16 _ _ _ _ _ _ _ _ _ _ _ _ _ _ _ _ _ _ _ _ H)
  · refine zA_brF (c := v28 = 0) rfl rfl rfl c30 ?_
    refine zA_push rfl rfl zkk5 ?_
    refine zA_go rfl rfl ?_
    exact zA_tr (L := [some (zrv x0), some (zrv x1), some (zrv x2), some (zrv x3), some (zrv x4), some (zI x5), some (zI x6), none, none]) rfl rfl (zmS291_139 hk16 _ _ _ _ _ _ _ _ _ _ _ _ _ _ _ _ _ _ _ _ H)
def zm291_82 (k16 : zq → zq → zq → zq → zq → Int32 → zH → zRs Int32) (x0 : zq) (x1 : zq) (x2 : zq) (x3 : zq) (x4 : zq) (x5 : Int32) (s0 : zq) (s1 : Int32) (s2 : Int32) (s3 : Int32) (s4 : Int32) (s5 : Int32) (s6 : Int32) (s7 : Int32) (s8 : Int32) (s9 : Int32) (h : zH) : zRs Int32 :=
  zb2 (zm241 s0 s1 s2 s3 s4 s5 s6 s7 s8 s9 x3 h) fun x22 h21 =>
  zri x0 (x5 + (1 : Int32)) h21 fun v30 =>
  zri x0 (x5 + (2 : Int32)) h21 fun v39 =>
  zri x0 (x5 + (3 : Int32)) h21 fun v48 =>
  zri x0 (x5 + (4 : Int32)) h21 fun v57 =>
  zri x0 (x5 + (5 : Int32)) h21 fun v66 =>
  zri x0 (x5 + (6 : Int32)) h21 fun v75 =>
  zri x0 (x5 + (7 : Int32)) h21 fun v84 =>
  zri x0 (x5 + (8 : Int32)) h21 fun v93 =>
  if v93 = 0 then
    zm291_130 k16 x0 x1 x2 x3 x4 x5 x22 x2 v30 v39 v48 v57 v66 v75 v84 (0 : Int32) h21
  else
    zm291_130 k16 x0 x1 x2 x3 x4 x5 x22 x2 v30 v39 v48 v57 v66 v75 v84 (1 : Int32) h21
theorem zmS291_82 {k16 : zq → zq → zq → zq → zq → Int32 → zH → zRs Int32} (hk16 : ∀ (x0 : zq) (x1 : zq) (x2 : zq) (x3 : zq) (x4 : zq) (x5 : Int32) (h : zH) (r : Int32 ⊕ Nat) (h' : zH), k16 x0 x1 x2 x3 x4 x5 h = some (r, h') → zAt 291 16 [some (zrv x0), some (zrv x1), some (zrv x2), some (zrv x3), some (zrv x4), some (zI x5), none, none, none] [] h (zoI r) h') : ∀ (x0 : zq) (x1 : zq) (x2 : zq) (x3 : zq) (x4 : zq) (x5 : Int32) (s0 : zq) (s1 : Int32) (s2 : Int32) (s3 : Int32) (s4 : Int32) (s5 : Int32) (s6 : Int32) (s7 : Int32) (s8 : Int32) (s9 : Int32) (h : zH) (r : Int32 ⊕ Nat) (h' : zH), zm291_82 k16 x0 x1 x2 x3 x4 x5 s0 s1 s2 s3 s4 s5 s6 s7 s8 s9 h = some (r, h') → zAt 291 82 [some (zrv x0), some (zrv x1), some (zrv x2), some (zrv x3), some (zrv x4), some (zI x5), none, none, none] [zI s9, zI s8, zI s7, zI s6, zI s5, zI s4, zI s3, zI s2, zI s1, zrv s0] h (zoI r) h' := by
  intro x0 x1 x2 x3 x4 x5 s0 s1 s2 s3 s4 s5 s6 s7 s8 s9 h r h' H
  unfold zm291_82 at H
  refine zA_aldn rfl rfl rfl ?_
  obtain ⟨x22, h21, C, H⟩ := zb2_e H
  refine zA_callV (as := [zrv s0, zI s1, zI s2, zI s3, zI s4, zI s5, zI s6, zI s7, zI s8, zI s9, zrv x3]) (st' := []) rfl rfl rfl rfl rfl (zmE241 _ _ _ _ _ _ _ _ _ _ _) rfl (zmS241 C) ?_
  refine zA_ist2 rfl rfl rfl (zset1 (L' := [some (zrv x0), some (zrv x1), some (zrv x2), some (zrv x3), some (zrv x4), some (zI x5), some (zI x22), none, none]) rfl rfl (zpcV rfl rfl)) ?_
  refine zA_aldn rfl rfl rfl ?_
  refine zA_aldn rfl rfl rfl ?_
  refine zA_ld rfl rfl rfl ?_
  refine zA_push rfl rfl zkk5 ?_
  refine zA_st (st' := [zI (x5 + (1 : Int32)), zrv x0, zrv x2]) rfl rfl rfl rfl ?_
  obtain ⟨p23, i24, j25, v30, e26, c27, c28, e29, e31, H⟩ := zri_e H
  refine zA_ial rfl rfl e26 c27 c28 e29 e31 ?_
  refine zA_aldn rfl rfl rfl ?_
  refine zA_ld rfl rfl rfl ?_
  refine zA_push rfl rfl zkk23 ?_
  refine zA_st (st' := [zI (x5 + (2 : Int32)), zrv x0, zI v30, zrv x2]) rfl rfl rfl rfl ?_
  obtain ⟨p32, i33, j34, v39, e35, c36, c37, e38, e40, H⟩ := zri_e H
  refine zA_ial rfl rfl e35 c36 c37 e38 e40 ?_
  refine zA_aldn rfl rfl rfl ?_
  refine zA_ld rfl rfl rfl ?_
  refine zA_push rfl rfl zkk3 ?_
  refine zA_st (st' := [zI (x5 + (3 : Int32)), zrv x0, zI v39, zI v30, zrv x2]) rfl rfl rfl rfl ?_
  obtain ⟨p41, i42, j43, v48, e44, c45, c46, e47, e49, H⟩ := zri_e H
  refine zA_ial rfl rfl e44 c45 c46 e47 e49 ?_
  refine zA_aldn rfl rfl rfl ?_
  refine zA_ld rfl rfl rfl ?_
  refine zA_push rfl rfl zkk9 ?_
  refine zA_st (st' := [zI (x5 + (4 : Int32)), zrv x0, zI v48, zI v39, zI v30, zrv x2]) rfl rfl rfl rfl ?_
  obtain ⟨p50, i51, j52, v57, e53, c54, c55, e56, e58, H⟩ := zri_e H
  refine zA_ial rfl rfl e53 c54 c55 e56 e58 ?_
  refine zA_aldn rfl rfl rfl ?_
  refine zA_ld rfl rfl rfl ?_
  refine zA_push rfl rfl zkk20 ?_
  refine zA_st (st' := [zI (x5 + (5 : Int32)), zrv x0, zI v57, zI v48, zI v39, zI v30, zrv x2]) rfl rfl rfl rfl ?_
  obtain ⟨p59, i60, j61, v66, e62, c63, c64, e65, e67, H⟩ := zri_e H
  refine zA_ial rfl rfl e62 c63 c64 e65 e67 ?_
  refine zA_aldn rfl rfl rfl ?_
  refine zA_ld rfl rfl rfl ?_
  refine zA_push rfl rfl zkk14 ?_
  refine zA_st (st' := [zI (x5 + (6 : Int32)), zrv x0, zI v66, zI v57, zI v48, zI v39, zI v30, zrv x2]) rfl rfl rfl rfl ?_
  obtain ⟨p68, i69, j70, v75, e71, c72, c73, e74, e76, H⟩ := zri_e H
  refine zA_ial rfl rfl e71 c72 c73 e74 e76 ?_
  refine zA_aldn rfl rfl rfl ?_
  refine zA_ld rfl rfl rfl ?_
  refine zA_push rfl rfl zkk22 ?_
  refine zA_st (st' := [zI (x5 + (7 : Int32)), zrv x0, zI v75, zI v66, zI v57, zI v48, zI v39, zI v30, zrv x2]) rfl rfl rfl rfl ?_
  obtain ⟨p77, i78, j79, v84, e80, c81, c82, e83, e85, H⟩ := zri_e H
  refine zA_ial rfl rfl e80 c81 c82 e83 e85 ?_
  refine zA_aldn rfl rfl rfl ?_
  refine zA_ld rfl rfl rfl ?_
  refine zA_push rfl rfl zkk0 ?_
  refine zA_st (st' := [zI (x5 + (8 : Int32)), zrv x0, zI v84, zI v75, zI v66, zI v57, zI v48, zI v39, zI v30, zrv x2]) rfl rfl rfl rfl ?_
  obtain ⟨p86, i87, j88, v93, e89, c90, c91, e92, e94, H⟩ := zri_e H
  refine zA_ial rfl rfl e89 c90 c91 e92 e94 ?_
  rcases zite_e H with ⟨c95, H⟩ | ⟨c95, H⟩
  · refine zA_brT (c := v93 = 0) rfl rfl rfl c95 ?_
    refine zA_push rfl rfl zkk7 ?_
    exact zA_tr (L := [some (zrv x0), some (zrv x1), some (zrv x2), some (zrv x3), some (zrv x4), some (zI x5), some (zI x22), none, none]) rfl rfl (zmS291_130 hk16 _ _ _ _ _ _ _ _ _ _ _ _ _ _ _ _ _ _ _ H)
  · refine zA_brF (c := v93 = 0) rfl rfl rfl c95 ?_
    refine zA_push rfl rfl zkk5 ?_
    refine zA_go rfl rfl ?_
    exact zA_tr (L := [some (zrv x0), some (zrv x1), some (zrv x2), some (zrv x3), some (zrv x4), some (zI x5), some (zI x22), none, none]) rfl rfl (zmS291_130 hk16 _ _ _ _ _ _ _ _ _ _ _ _ _ _ _ _ _ _ _ H)
def zm291_73 (k16 : zq → zq → zq → zq → zq → Int32 → zH → zRs Int32) (x0 : zq) (x1 : zq) (x2 : zq) (x3 : zq) (x4 : zq) (x5 : Int32) (s0 : zq) (s1 : Int32) (s2 : Int32) (s3 : Int32) (s4 : Int32) (s5 : Int32) (s6 : Int32) (s7 : Int32) (s8 : Int32) (h : zH) : zRs Int32 :=
  zri x0 (x5 + (9 : Int32)) h fun v28 =>
  if v28 = 0 then
    zm291_82 k16 x0 x1 x2 x3 x4 x5 s0 s1 s2 s3 s4 s5 s6 s7 s8 (0 : Int32) h
  else
    zm291_82 k16 x0 x1 x2 x3 x4 x5 s0 s1 s2 s3 s4 s5 s6 s7 s8 (1 : Int32) h
theorem zmS291_73 {k16 : zq → zq → zq → zq → zq → Int32 → zH → zRs Int32} (hk16 : ∀ (x0 : zq) (x1 : zq) (x2 : zq) (x3 : zq) (x4 : zq) (x5 : Int32) (h : zH) (r : Int32 ⊕ Nat) (h' : zH), k16 x0 x1 x2 x3 x4 x5 h = some (r, h') → zAt 291 16 [some (zrv x0), some (zrv x1), some (zrv x2), some (zrv x3), some (zrv x4), some (zI x5), none, none, none] [] h (zoI r) h') : ∀ (x0 : zq) (x1 : zq) (x2 : zq) (x3 : zq) (x4 : zq) (x5 : Int32) (s0 : zq) (s1 : Int32) (s2 : Int32) (s3 : Int32) (s4 : Int32) (s5 : Int32) (s6 : Int32) (s7 : Int32) (s8 : Int32) (h : zH) (r : Int32 ⊕ Nat) (h' : zH), zm291_73 k16 x0 x1 x2 x3 x4 x5 s0 s1 s2 s3 s4 s5 s6 s7 s8 h = some (r, h') → zAt 291 73 [some (zrv x0), some (zrv x1), some (zrv x2), some (zrv x3), some (zrv x4), some (zI x5), none, none, none] [zI s8, zI s7, zI s6, zI s5, zI s4, zI s3, zI s2, zI s1, zrv s0] h (zoI r) h' := by
  intro x0 x1 x2 x3 x4 x5 s0 s1 s2 s3 s4 s5 s6 s7 s8 h r h' H
  unfold zm291_73 at H
  refine zA_aldn rfl rfl rfl ?_
  refine zA_ld rfl rfl rfl ?_
  refine zA_push rfl rfl zkk19 ?_
  refine zA_st (st' := [zI (x5 + (9 : Int32)), zrv x0, zI s8, zI s7, zI s6, zI s5, zI s4, zI s3, zI s2, zI s1, zrv s0]) rfl rfl rfl rfl ?_
  obtain ⟨p21, i22, j23, v28, e24, c25, c26, e27, e29, H⟩ := zri_e H
  refine zA_ial rfl rfl e24 c25 c26 e27 e29 ?_
  rcases zite_e H with ⟨c30, H⟩ | ⟨c30, H⟩
  · refine zA_brT (c := v28 = 0) rfl rfl rfl c30 ?_
    refine zA_push rfl rfl zkk7 ?_
    exact zA_tr (L := [some (zrv x0), some (zrv x1), some (zrv x2), some (zrv x3), some (zrv x4), some (zI x5), none, none, none]) rfl rfl (zmS291_82 hk16 _ _ _ _ _ _ _ _ _ _ _ _ _ _ _ _ _ _ _ H)
  · refine zA_brF (c := v28 = 0) rfl rfl rfl c30 ?_
    refine zA_push rfl rfl zkk5 ?_
    refine zA_go rfl rfl ?_
    exact zA_tr (L := [some (zrv x0), some (zrv x1), some (zrv x2), some (zrv x3), some (zrv x4), some (zI x5), none, none, none]) rfl rfl (zmS291_82 hk16 _ _ _ _ _ _ _ _ _ _ _ _ _ _ _ _ _ _ _ H)
def zm291_28 (k16 : zq → zq → zq → zq → zq → Int32 → zH → zRs Int32) (x0 : zq) (x1 : zq) (x2 : zq) (x3 : zq) (x4 : zq) (x5 : Int32) (h : zH) : zRs Int32 :=
  zri x0 (x5 + (1 : Int32)) h fun v28 =>
  zri x0 (x5 + (2 : Int32)) h fun v37 =>
  zri x0 (x5 + (3 : Int32)) h fun v46 =>
  zri x0 (x5 + (4 : Int32)) h fun v55 =>
  zri x0 (x5 + (5 : Int32)) h fun v64 =>
  zri x0 (x5 + (6 : Int32)) h fun v73 =>
  zri x0 (x5 + (7 : Int32)) h fun v82 =>
  zri x0 (x5 + (8 : Int32)) h fun v91 =>
  if v91 = 0 then
    zm291_73 k16 x0 x1 x2 x3 x4 x5 x1 v28 v37 v46 v55 v64 v73 v82 (0 : Int32) h
  else
    zm291_73 k16 x0 x1 x2 x3 x4 x5 x1 v28 v37 v46 v55 v64 v73 v82 (1 : Int32) h
theorem zmS291_28 {k16 : zq → zq → zq → zq → zq → Int32 → zH → zRs Int32} (hk16 : ∀ (x0 : zq) (x1 : zq) (x2 : zq) (x3 : zq) (x4 : zq) (x5 : Int32) (h : zH) (r : Int32 ⊕ Nat) (h' : zH), k16 x0 x1 x2 x3 x4 x5 h = some (r, h') → zAt 291 16 [some (zrv x0), some (zrv x1), some (zrv x2), some (zrv x3), some (zrv x4), some (zI x5), none, none, none] [] h (zoI r) h') : ∀ (x0 : zq) (x1 : zq) (x2 : zq) (x3 : zq) (x4 : zq) (x5 : Int32) (h : zH) (r : Int32 ⊕ Nat) (h' : zH), zm291_28 k16 x0 x1 x2 x3 x4 x5 h = some (r, h') → zAt 291 28 [some (zrv x0), some (zrv x1), some (zrv x2), some (zrv x3), some (zrv x4), some (zI x5), none, none, none] [] h (zoI r) h' := by
  intro x0 x1 x2 x3 x4 x5 h r h' H
  unfold zm291_28 at H
  refine zA_aldn rfl rfl rfl ?_
  refine zA_aldn rfl rfl rfl ?_
  refine zA_ld rfl rfl rfl ?_
  refine zA_push rfl rfl zkk5 ?_
  refine zA_st (st' := [zI (x5 + (1 : Int32)), zrv x0, zrv x1]) rfl rfl rfl rfl ?_
  obtain ⟨p21, i22, j23, v28, e24, c25, c26, e27, e29, H⟩ := zri_e H
  refine zA_ial rfl rfl e24 c25 c26 e27 e29 ?_
  refine zA_aldn rfl rfl rfl ?_
  refine zA_ld rfl rfl rfl ?_
  refine zA_push rfl rfl zkk23 ?_
  refine zA_st (st' := [zI (x5 + (2 : Int32)), zrv x0, zI v28, zrv x1]) rfl rfl rfl rfl ?_
  obtain ⟨p30, i31, j32, v37, e33, c34, c35, e36, e38, H⟩ := zri_e H
  refine zA_ial rfl rfl e33 c34 c35 e36 e38 ?_
  refine zA_aldn rfl rfl rfl ?_
  refine zA_ld rfl rfl rfl ?_
  refine zA_push rfl rfl zkk3 ?_
  refine zA_st (st' := [zI (x5 + (3 : Int32)), zrv x0, zI v37, zI v28, zrv x1]) rfl rfl rfl rfl ?_
  obtain ⟨p39, i40, j41, v46, e42, c43, c44, e45, e47, H⟩ := zri_e H
  refine zA_ial rfl rfl e42 c43 c44 e45 e47 ?_
  refine zA_aldn rfl rfl rfl ?_
  refine zA_ld rfl rfl rfl ?_
  refine zA_push rfl rfl zkk9 ?_
  refine zA_st (st' := [zI (x5 + (4 : Int32)), zrv x0, zI v46, zI v37, zI v28, zrv x1]) rfl rfl rfl rfl ?_
  obtain ⟨p48, i49, j50, v55, e51, c52, c53, e54, e56, H⟩ := zri_e H
  refine zA_ial rfl rfl e51 c52 c53 e54 e56 ?_
  refine zA_aldn rfl rfl rfl ?_
  refine zA_ld rfl rfl rfl ?_
  refine zA_push rfl rfl zkk20 ?_
  refine zA_st (st' := [zI (x5 + (5 : Int32)), zrv x0, zI v55, zI v46, zI v37, zI v28, zrv x1]) rfl rfl rfl rfl ?_
  obtain ⟨p57, i58, j59, v64, e60, c61, c62, e63, e65, H⟩ := zri_e H
  refine zA_ial rfl rfl e60 c61 c62 e63 e65 ?_
  refine zA_aldn rfl rfl rfl ?_
  refine zA_ld rfl rfl rfl ?_
  refine zA_push rfl rfl zkk14 ?_
  refine zA_st (st' := [zI (x5 + (6 : Int32)), zrv x0, zI v64, zI v55, zI v46, zI v37, zI v28, zrv x1]) rfl rfl rfl rfl ?_
  obtain ⟨p66, i67, j68, v73, e69, c70, c71, e72, e74, H⟩ := zri_e H
  refine zA_ial rfl rfl e69 c70 c71 e72 e74 ?_
  refine zA_aldn rfl rfl rfl ?_
  refine zA_ld rfl rfl rfl ?_
  refine zA_push rfl rfl zkk22 ?_
  refine zA_st (st' := [zI (x5 + (7 : Int32)), zrv x0, zI v73, zI v64, zI v55, zI v46, zI v37, zI v28, zrv x1]) rfl rfl rfl rfl ?_
  obtain ⟨p75, i76, j77, v82, e78, c79, c80, e81, e83, H⟩ := zri_e H
  refine zA_ial rfl rfl e78 c79 c80 e81 e83 ?_
  refine zA_aldn rfl rfl rfl ?_
  refine zA_ld rfl rfl rfl ?_
  refine zA_push rfl rfl zkk0 ?_
  refine zA_st (st' := [zI (x5 + (8 : Int32)), zrv x0, zI v82, zI v73, zI v64, zI v55, zI v46, zI v37, zI v28, zrv x1]) rfl rfl rfl rfl ?_
  obtain ⟨p84, i85, j86, v91, e87, c88, c89, e90, e92, H⟩ := zri_e H
  refine zA_ial rfl rfl e87 c88 c89 e90 e92 ?_
  rcases zite_e H with ⟨c93, H⟩ | ⟨c93, H⟩
  · refine zA_brT (c := v91 = 0) rfl rfl rfl c93 ?_
    refine zA_push rfl rfl zkk7 ?_
    exact zA_tr (L := [some (zrv x0), some (zrv x1), some (zrv x2), some (zrv x3), some (zrv x4), some (zI x5), none, none, none]) rfl rfl (zmS291_73 hk16 _ _ _ _ _ _ _ _ _ _ _ _ _ _ _ _ _ _ H)
  · refine zA_brF (c := v91 = 0) rfl rfl rfl c93 ?_
    refine zA_push rfl rfl zkk5 ?_
    refine zA_go rfl rfl ?_
    exact zA_tr (L := [some (zrv x0), some (zrv x1), some (zrv x2), some (zrv x3), some (zrv x4), some (zI x5), none, none, none]) rfl rfl (zmS291_73 hk16 _ _ _ _ _ _ _ _ _ _ _ _ _ _ _ _ _ _ H)
def zm291_16 : Nat → zq → zq → zq → zq → zq → Int32 → zH → zRs Int32
  | 0, _, _, _, _, _, _, _ => none
  | n + 1, x0, x1, x2, x3, x4, x5, h =>
    zal x0 fun p21 i22 =>
    if ((nI (zln h p21 i22)) - (10 : Int32)) < x5 then
      some (.inl (1 : Int32), h)
    else
      zri x0 x5 h fun v33 =>
      if (v33 &&& (63 : Int32)).toInt < 0 ∨ 53 < (v33 &&& (63 : Int32)).toInt then
        zm291_2349 (zm291_16 n) x0 x1 x2 x3 x4 x5 h
      else if (v33 &&& (63 : Int32)) = (0 : Int32) then
        zm291_28 (zm291_16 n) x0 x1 x2 x3 x4 x5 h
      else if (v33 &&& (63 : Int32)) = (1 : Int32) then
        zm291_159 (zm291_16 n) x0 x1 x2 x3 x4 x5 h
      else if (v33 &&& (63 : Int32)) = (2 : Int32) then
        zm291_204 (zm291_16 n) x0 x1 x2 x3 x4 x5 h
      else if (v33 &&& (63 : Int32)) = (3 : Int32) then
        zm291_242 (zm291_16 n) x0 x1 x2 x3 x4 x5 h
      else if (v33 &&& (63 : Int32)) = (4 : Int32) then
        zm291_277 (zm291_16 n) x0 x1 x2 x3 x4 x5 h
      else if (v33 &&& (63 : Int32)) = (5 : Int32) then
        zm291_284 (zm291_16 n) x0 x1 x2 x3 x4 x5 h
      else if (v33 &&& (63 : Int32)) = (6 : Int32) then
        zm291_309 (zm291_16 n) x0 x1 x2 x3 x4 x5 h
      else if (v33 &&& (63 : Int32)) = (7 : Int32) then
        zm291_374 (zm291_16 n) x0 x1 x2 x3 x4 x5 h
      else if (v33 &&& (63 : Int32)) = (8 : Int32) then
        zm291_419 (zm291_16 n) x0 x1 x2 x3 x4 x5 h
      else if (v33 &&& (63 : Int32)) = (9 : Int32) then
        zm291_464 (zm291_16 n) x0 x1 x2 x3 x4 x5 h
      else if (v33 &&& (63 : Int32)) = (10 : Int32) then
        zm291_499 (zm291_16 n) x0 x1 x2 x3 x4 x5 h
      else if (v33 &&& (63 : Int32)) = (11 : Int32) then
        zm291_534 (zm291_16 n) x0 x1 x2 x3 x4 x5 h
      else if (v33 &&& (63 : Int32)) = (12 : Int32) then
        zm291_569 (zm291_16 n) x0 x1 x2 x3 x4 x5 h
      else if (v33 &&& (63 : Int32)) = (13 : Int32) then
        zm291_604 (zm291_16 n) x0 x1 x2 x3 x4 x5 h
      else if (v33 &&& (63 : Int32)) = (14 : Int32) then
        zm291_639 (zm291_16 n) x0 x1 x2 x3 x4 x5 h
      else if (v33 &&& (63 : Int32)) = (15 : Int32) then
        zm291_669 (zm291_16 n) x0 x1 x2 x3 x4 x5 h
      else if (v33 &&& (63 : Int32)) = (16 : Int32) then
        zm291_694 (zm291_16 n) x0 x1 x2 x3 x4 x5 h
      else if (v33 &&& (63 : Int32)) = (17 : Int32) then
        zm291_701 (zm291_16 n) x0 x1 x2 x3 x4 x5 h
      else if (v33 &&& (63 : Int32)) = (18 : Int32) then
        zm291_708 (zm291_16 n) x0 x1 x2 x3 x4 x5 h
      else if (v33 &&& (63 : Int32)) = (19 : Int32) then
        zm291_753 (zm291_16 n) x0 x1 x2 x3 x4 x5 h
      else if (v33 &&& (63 : Int32)) = (20 : Int32) then
        zm291_798 (zm291_16 n) x0 x1 x2 x3 x4 x5 h
      else if (v33 &&& (63 : Int32)) = (21 : Int32) then
        zm291_843 (zm291_16 n) x0 x1 x2 x3 x4 x5 h
      else if (v33 &&& (63 : Int32)) = (22 : Int32) then
        zm291_888 (zm291_16 n) x0 x1 x2 x3 x4 x5 h
      else if (v33 &&& (63 : Int32)) = (23 : Int32) then
        zm291_933 (zm291_16 n) x0 x1 x2 x3 x4 x5 h
      else if (v33 &&& (63 : Int32)) = (24 : Int32) then
        zm291_978 (zm291_16 n) x0 x1 x2 x3 x4 x5 h
      else if (v33 &&& (63 : Int32)) = (25 : Int32) then
        zm291_1023 (zm291_16 n) x0 x1 x2 x3 x4 x5 h
      else if (v33 &&& (63 : Int32)) = (26 : Int32) then
        zm291_1068 (zm291_16 n) x0 x1 x2 x3 x4 x5 h
      else if (v33 &&& (63 : Int32)) = (27 : Int32) then
        zm291_1100 (zm291_16 n) x0 x1 x2 x3 x4 x5 h
      else if (v33 &&& (63 : Int32)) = (28 : Int32) then
        zm291_1142 (zm291_16 n) x0 x1 x2 x3 x4 x5 h
      else if (v33 &&& (63 : Int32)) = (29 : Int32) then
        zm291_1177 (zm291_16 n) x0 x1 x2 x3 x4 x5 h
      else if (v33 &&& (63 : Int32)) = (30 : Int32) then
        zm291_1209 (zm291_16 n) x0 x1 x2 x3 x4 x5 h
      else if (v33 &&& (63 : Int32)) = (31 : Int32) then
        zm291_1254 (zm291_16 n) x0 x1 x2 x3 x4 x5 h
      else if (v33 &&& (63 : Int32)) = (32 : Int32) then
        zm291_1345 (zm291_16 n) x0 x1 x2 x3 x4 x5 h
      else if (v33 &&& (63 : Int32)) = (33 : Int32) then
        zm291_1401 (zm291_16 n) x0 x1 x2 x3 x4 x5 h
      else if (v33 &&& (63 : Int32)) = (34 : Int32) then
        zm291_1446 (zm291_16 n) x0 x1 x2 x3 x4 x5 h
      else if (v33 &&& (63 : Int32)) = (35 : Int32) then
        zm291_1491 (zm291_16 n) x0 x1 x2 x3 x4 x5 h
      else if (v33 &&& (63 : Int32)) = (36 : Int32) then
        zm291_1566 (zm291_16 n) x0 x1 x2 x3 x4 x5 h
      else if (v33 &&& (63 : Int32)) = (37 : Int32) then
        zm291_1604 (zm291_16 n) x0 x1 x2 x3 x4 x5 h
      else if (v33 &&& (63 : Int32)) = (38 : Int32) then
        zm291_1669 (zm291_16 n) x0 x1 x2 x3 x4 x5 h
      else if (v33 &&& (63 : Int32)) = (39 : Int32) then
        zm291_1714 (zm291_16 n) x0 x1 x2 x3 x4 x5 h
      else if (v33 &&& (63 : Int32)) = (40 : Int32) then
        zm291_1762 (zm291_16 n) x0 x1 x2 x3 x4 x5 h
      else if (v33 &&& (63 : Int32)) = (41 : Int32) then
        zm291_1807 (zm291_16 n) x0 x1 x2 x3 x4 x5 h
      else if (v33 &&& (63 : Int32)) = (42 : Int32) then
        zm291_1842 (zm291_16 n) x0 x1 x2 x3 x4 x5 h
      else if (v33 &&& (63 : Int32)) = (43 : Int32) then
        zm291_1877 (zm291_16 n) x0 x1 x2 x3 x4 x5 h
      else if (v33 &&& (63 : Int32)) = (44 : Int32) then
        zm291_1922 (zm291_16 n) x0 x1 x2 x3 x4 x5 h
      else if (v33 &&& (63 : Int32)) = (45 : Int32) then
        zm291_1957 (zm291_16 n) x0 x1 x2 x3 x4 x5 h
      else if (v33 &&& (63 : Int32)) = (46 : Int32) then
        zm291_1999 (zm291_16 n) x0 x1 x2 x3 x4 x5 h
      else if (v33 &&& (63 : Int32)) = (47 : Int32) then
        zm291_2082 (zm291_16 n) x0 x1 x2 x3 x4 x5 h
      else if (v33 &&& (63 : Int32)) = (48 : Int32) then
        zm291_2120 (zm291_16 n) x0 x1 x2 x3 x4 x5 h
      else if (v33 &&& (63 : Int32)) = (49 : Int32) then
        zm291_2152 (zm291_16 n) x0 x1 x2 x3 x4 x5 h
      else if (v33 &&& (63 : Int32)) = (50 : Int32) then
        zm291_2200 (zm291_16 n) x0 x1 x2 x3 x4 x5 h
      else if (v33 &&& (63 : Int32)) = (51 : Int32) then
        zm291_2207 (zm291_16 n) x0 x1 x2 x3 x4 x5 h
      else if (v33 &&& (63 : Int32)) = (52 : Int32) then
        zm291_2282 (zm291_16 n) x0 x1 x2 x3 x4 x5 h
      else if (v33 &&& (63 : Int32)) = (53 : Int32) then
        zm291_2304 (zm291_16 n) x0 x1 x2 x3 x4 x5 h
      else none
theorem zmS291_16 : ∀ (n : Nat) (x0 : zq) (x1 : zq) (x2 : zq) (x3 : zq) (x4 : zq) (x5 : Int32) (h : zH) (r : Int32 ⊕ Nat) (h' : zH), zm291_16 n x0 x1 x2 x3 x4 x5 h = some (r, h') → zAt 291 16 [some (zrv x0), some (zrv x1), some (zrv x2), some (zrv x3), some (zrv x4), some (zI x5), none, none, none] [] h (zoI r) h' := by
  intro n
  induction n with
  | zero => intro x0 x1 x2 x3 x4 x5 h r h' H; cases H
  | succ n ih =>
    intro x0 x1 x2 x3 x4 x5 h r h' H
    unfold zm291_16 at H
    refine zA_ld rfl rfl rfl ?_
    refine zA_aldn rfl rfl rfl ?_
    obtain ⟨p21, i22, e23, c24, H⟩ := zal_e H
    refine zA_len rfl rfl e23 c24 ?_
    refine zA_push rfl rfl zkk27 ?_
    refine zA_st (st' := [zI ((nI (zln h p21 i22)) - (10 : Int32)), zI x5]) rfl rfl rfl rfl ?_
    rcases zite_e H with ⟨c25, H⟩ | ⟨c25, H⟩
    · refine zA_brT (c := ((nI (zln h p21 i22)) - (10 : Int32)) < x5) rfl rfl rfl c25 ?_
      refine zA_tr (L := [none, none, none, none, none, none, none, none, none]) rfl rfl ?_
      refine zA_push rfl rfl zkk5 ?_
      cases H
      exact zA_ret rfl (zret_Z (by decide))
    · refine zA_brF (c := ((nI (zln h p21 i22)) - (10 : Int32)) < x5) rfl rfl rfl c25 ?_
      refine zA_aldn rfl rfl rfl ?_
      refine zA_ld rfl rfl rfl ?_
      obtain ⟨p26, i27, j28, v33, e29, c30, c31, e32, e34, H⟩ := zri_e H
      refine zA_ial rfl rfl e29 c30 c31 e32 e34 ?_
      refine zA_push rfl rfl zkk34 ?_
      refine zA_st (st' := [zI (v33 &&& (63 : Int32))]) rfl rfl rfl rfl ?_
      rcases zite_e H with ⟨c35, H⟩ | ⟨c35, H⟩
      · refine zA_swD rfl rfl c35 ?_
        exact zA_tr (L := [some (zrv x0), some (zrv x1), some (zrv x2), some (zrv x3), some (zrv x4), some (zI x5), none, none, none]) rfl rfl (zmS291_2349 ih _ _ _ _ _ _ _ _ _ H)
      · rcases zite_e H with ⟨c89, H⟩ | ⟨c89, H⟩
        · refine zA_swT (j := 0) (t := 28) rfl rfl c35 (by rw [c89]; decide) rfl ?_
          exact zA_tr (L := [some (zrv x0), some (zrv x1), some (zrv x2), some (zrv x3), some (zrv x4), some (zI x5), none, none, none]) rfl rfl (zmS291_28 ih _ _ _ _ _ _ _ _ _ H)
        · rcases zite_e H with ⟨c88, H⟩ | ⟨c88, H⟩
          · refine zA_swT (j := 1) (t := 159) rfl rfl c35 (by rw [c88]; decide) rfl ?_
            exact zA_tr (L := [some (zrv x0), some (zrv x1), some (zrv x2), some (zrv x3), some (zrv x4), some (zI x5), none, none, none]) rfl rfl (zmS291_159 ih _ _ _ _ _ _ _ _ _ H)
          · rcases zite_e H with ⟨c87, H⟩ | ⟨c87, H⟩
            · refine zA_swT (j := 2) (t := 204) rfl rfl c35 (by rw [c87]; decide) rfl ?_
              exact zA_tr (L := [some (zrv x0), some (zrv x1), some (zrv x2), some (zrv x3), some (zrv x4), some (zI x5), none, none, none]) rfl rfl (zmS291_204 ih _ _ _ _ _ _ _ _ _ H)
            · rcases zite_e H with ⟨c86, H⟩ | ⟨c86, H⟩
              · refine zA_swT (j := 3) (t := 242) rfl rfl c35 (by rw [c86]; decide) rfl ?_
                exact zA_tr (L := [some (zrv x0), some (zrv x1), some (zrv x2), some (zrv x3), some (zrv x4), some (zI x5), none, none, none]) rfl rfl (zmS291_242 ih _ _ _ _ _ _ _ _ _ H)
              · rcases zite_e H with ⟨c85, H⟩ | ⟨c85, H⟩
                · refine zA_swT (j := 4) (t := 277) rfl rfl c35 (by rw [c85]; decide) rfl ?_
                  exact zA_tr (L := [some (zrv x0), some (zrv x1), some (zrv x2), some (zrv x3), some (zrv x4), some (zI x5), none, none, none]) rfl rfl (zmS291_277 ih _ _ _ _ _ _ _ _ _ H)
                · rcases zite_e H with ⟨c84, H⟩ | ⟨c84, H⟩
                  · refine zA_swT (j := 5) (t := 284) rfl rfl c35 (by rw [c84]; decide) rfl ?_
                    exact zA_tr (L := [some (zrv x0), some (zrv x1), some (zrv x2), some (zrv x3), some (zrv x4), some (zI x5), none, none, none]) rfl rfl (zmS291_284 ih _ _ _ _ _ _ _ _ _ H)
                  · rcases zite_e H with ⟨c83, H⟩ | ⟨c83, H⟩
                    · refine zA_swT (j := 6) (t := 309) rfl rfl c35 (by rw [c83]; decide) rfl ?_
                      exact zA_tr (L := [some (zrv x0), some (zrv x1), some (zrv x2), some (zrv x3), some (zrv x4), some (zI x5), none, none, none]) rfl rfl (zmS291_309 ih _ _ _ _ _ _ _ _ _ H)
                    · rcases zite_e H with ⟨c82, H⟩ | ⟨c82, H⟩
                      · refine zA_swT (j := 7) (t := 374) rfl rfl c35 (by rw [c82]; decide) rfl ?_
                        exact zA_tr (L := [some (zrv x0), some (zrv x1), some (zrv x2), some (zrv x3), some (zrv x4), some (zI x5), none, none, none]) rfl rfl (zmS291_374 ih _ _ _ _ _ _ _ _ _ H)
                      · rcases zite_e H with ⟨c81, H⟩ | ⟨c81, H⟩
                        · refine zA_swT (j := 8) (t := 419) rfl rfl c35 (by rw [c81]; decide) rfl ?_
                          exact zA_tr (L := [some (zrv x0), some (zrv x1), some (zrv x2), some (zrv x3), some (zrv x4), some (zI x5), none, none, none]) rfl rfl (zmS291_419 ih _ _ _ _ _ _ _ _ _ H)
                        · rcases zite_e H with ⟨c80, H⟩ | ⟨c80, H⟩
                          · refine zA_swT (j := 9) (t := 464) rfl rfl c35 (by rw [c80]; decide) rfl ?_
                            exact zA_tr (L := [some (zrv x0), some (zrv x1), some (zrv x2), some (zrv x3), some (zrv x4), some (zI x5), none, none, none]) rfl rfl (zmS291_464 ih _ _ _ _ _ _ _ _ _ H)
                          · rcases zite_e H with ⟨c79, H⟩ | ⟨c79, H⟩
                            · refine zA_swT (j := 10) (t := 499) rfl rfl c35 (by rw [c79]; decide) rfl ?_
                              exact zA_tr (L := [some (zrv x0), some (zrv x1), some (zrv x2), some (zrv x3), some (zrv x4), some (zI x5), none, none, none]) rfl rfl (zmS291_499 ih _ _ _ _ _ _ _ _ _ H)
                            · rcases zite_e H with ⟨c78, H⟩ | ⟨c78, H⟩
                              · refine zA_swT (j := 11) (t := 534) rfl rfl c35 (by rw [c78]; decide) rfl ?_
                                exact zA_tr (L := [some (zrv x0), some (zrv x1), some (zrv x2), some (zrv x3), some (zrv x4), some (zI x5), none, none, none]) rfl rfl (zmS291_534 ih _ _ _ _ _ _ _ _ _ H)
                              · rcases zite_e H with ⟨c77, H⟩ | ⟨c77, H⟩
                                · refine zA_swT (j := 12) (t := 569) rfl rfl c35 (by rw [c77]; decide) rfl ?_
                                  exact zA_tr (L := [some (zrv x0), some (zrv x1), some (zrv x2), some (zrv x3), some (zrv x4), some (zI x5), none, none, none]) rfl rfl (zmS291_569 ih _ _ _ _ _ _ _ _ _ H)
                                · rcases zite_e H with ⟨c76, H⟩ | ⟨c76, H⟩
                                  · refine zA_swT (j := 13) (t := 604) rfl rfl c35 (by rw [c76]; decide) rfl ?_
                                    exact zA_tr (L := [some (zrv x0), some (zrv x1), some (zrv x2), some (zrv x3), some (zrv x4), some (zI x5), none, none, none]) rfl rfl (zmS291_604 ih _ _ _ _ _ _ _ _ _ H)
                                  · rcases zite_e H with ⟨c75, H⟩ | ⟨c75, H⟩
                                    · refine zA_swT (j := 14) (t := 639) rfl rfl c35 (by rw [c75]; decide) rfl ?_
                                      exact zA_tr (L := [some (zrv x0), some (zrv x1), some (zrv x2), some (zrv x3), some (zrv x4), some (zI x5), none, none, none]) rfl rfl (zmS291_639 ih _ _ _ _ _ _ _ _ _ H)
                                    · rcases zite_e H with ⟨c74, H⟩ | ⟨c74, H⟩
                                      · refine zA_swT (j := 15) (t := 669) rfl rfl c35 (by rw [c74]; decide) rfl ?_
                                        exact zA_tr (L := [some (zrv x0), some (zrv x1), some (zrv x2), some (zrv x3), some (zrv x4), some (zI x5), none, none, none]) rfl rfl (zmS291_669 ih _ _ _ _ _ _ _ _ _ H)
                                      · rcases zite_e H with ⟨c73, H⟩ | ⟨c73, H⟩
                                        · refine zA_swT (j := 16) (t := 694) rfl rfl c35 (by rw [c73]; decide) rfl ?_
                                          exact zA_tr (L := [some (zrv x0), some (zrv x1), some (zrv x2), some (zrv x3), some (zrv x4), some (zI x5), none, none, none]) rfl rfl (zmS291_694 ih _ _ _ _ _ _ _ _ _ H)
                                        · rcases zite_e H with ⟨c72, H⟩ | ⟨c72, H⟩
                                          · refine zA_swT (j := 17) (t := 701) rfl rfl c35 (by rw [c72]; decide) rfl ?_
                                            exact zA_tr (L := [some (zrv x0), some (zrv x1), some (zrv x2), some (zrv x3), some (zrv x4), some (zI x5), none, none, none]) rfl rfl (zmS291_701 ih _ _ _ _ _ _ _ _ _ H)
                                          · rcases zite_e H with ⟨c71, H⟩ | ⟨c71, H⟩
                                            · refine zA_swT (j := 18) (t := 708) rfl rfl c35 (by rw [c71]; decide) rfl ?_
                                              exact zA_tr (L := [some (zrv x0), some (zrv x1), some (zrv x2), some (zrv x3), some (zrv x4), some (zI x5), none, none, none]) rfl rfl (zmS291_708 ih _ _ _ _ _ _ _ _ _ H)
                                            · rcases zite_e H with ⟨c70, H⟩ | ⟨c70, H⟩
                                              · refine zA_swT (j := 19) (t := 753) rfl rfl c35 (by rw [c70]; decide) rfl ?_
                                                exact zA_tr (L := [some (zrv x0), some (zrv x1), some (zrv x2), some (zrv x3), some (zrv x4), some (zI x5), none, none, none]) rfl rfl (zmS291_753 ih _ _ _ _ _ _ _ _ _ H)
                                              · rcases zite_e H with ⟨c69, H⟩ | ⟨c69, H⟩
                                                · refine zA_swT (j := 20) (t := 798) rfl rfl c35 (by rw [c69]; decide) rfl ?_
                                                  exact zA_tr (L := [some (zrv x0), some (zrv x1), some (zrv x2), some (zrv x3), some (zrv x4), some (zI x5), none, none, none]) rfl rfl (zmS291_798 ih _ _ _ _ _ _ _ _ _ H)
                                                · rcases zite_e H with ⟨c68, H⟩ | ⟨c68, H⟩
                                                  · refine zA_swT (j := 21) (t := 843) rfl rfl c35 (by rw [c68]; decide) rfl ?_
                                                    exact zA_tr (L := [some (zrv x0), some (zrv x1), some (zrv x2), some (zrv x3), some (zrv x4), some (zI x5), none, none, none]) rfl rfl (zmS291_843 ih _ _ _ _ _ _ _ _ _ H)
                                                  · rcases zite_e H with ⟨c67, H⟩ | ⟨c67, H⟩
                                                    · refine zA_swT (j := 22) (t := 888) rfl rfl c35 (by rw [c67]; decide) rfl ?_
                                                      exact zA_tr (L := [some (zrv x0), some (zrv x1), some (zrv x2), some (zrv x3), some (zrv x4), some (zI x5), none, none, none]) rfl rfl (zmS291_888 ih _ _ _ _ _ _ _ _ _ H)
                                                    · rcases zite_e H with ⟨c66, H⟩ | ⟨c66, H⟩
                                                      · refine zA_swT (j := 23) (t := 933) rfl rfl c35 (by rw [c66]; decide) rfl ?_
                                                        exact zA_tr (L := [some (zrv x0), some (zrv x1), some (zrv x2), some (zrv x3), some (zrv x4), some (zI x5), none, none, none]) rfl rfl (zmS291_933 ih _ _ _ _ _ _ _ _ _ H)
                                                      · rcases zite_e H with ⟨c65, H⟩ | ⟨c65, H⟩
                                                        · refine zA_swT (j := 24) (t := 978) rfl rfl c35 (by rw [c65]; decide) rfl ?_
                                                          exact zA_tr (L := [some (zrv x0), some (zrv x1), some (zrv x2), some (zrv x3), some (zrv x4), some (zI x5), none, none, none]) rfl rfl (zmS291_978 ih _ _ _ _ _ _ _ _ _ H)
                                                        · rcases zite_e H with ⟨c64, H⟩ | ⟨c64, H⟩
                                                          · refine zA_swT (j := 25) (t := 1023) rfl rfl c35 (by rw [c64]; decide) rfl ?_
                                                            exact zA_tr (L := [some (zrv x0), some (zrv x1), some (zrv x2), some (zrv x3), some (zrv x4), some (zI x5), none, none, none]) rfl rfl (zmS291_1023 ih _ _ _ _ _ _ _ _ _ H)
                                                          · rcases zite_e H with ⟨c63, H⟩ | ⟨c63, H⟩
                                                            · refine zA_swT (j := 26) (t := 1068) rfl rfl c35 (by rw [c63]; decide) rfl ?_
                                                              exact zA_tr (L := [some (zrv x0), some (zrv x1), some (zrv x2), some (zrv x3), some (zrv x4), some (zI x5), none, none, none]) rfl rfl (zmS291_1068 ih _ _ _ _ _ _ _ _ _ H)
                                                            · rcases zite_e H with ⟨c62, H⟩ | ⟨c62, H⟩
                                                              · refine zA_swT (j := 27) (t := 1100) rfl rfl c35 (by rw [c62]; decide) rfl ?_
                                                                exact zA_tr (L := [some (zrv x0), some (zrv x1), some (zrv x2), some (zrv x3), some (zrv x4), some (zI x5), none, none, none]) rfl rfl (zmS291_1100 ih _ _ _ _ _ _ _ _ _ H)
                                                              · rcases zite_e H with ⟨c61, H⟩ | ⟨c61, H⟩
                                                                · refine zA_swT (j := 28) (t := 1142) rfl rfl c35 (by rw [c61]; decide) rfl ?_
                                                                  exact zA_tr (L := [some (zrv x0), some (zrv x1), some (zrv x2), some (zrv x3), some (zrv x4), some (zI x5), none, none, none]) rfl rfl (zmS291_1142 ih _ _ _ _ _ _ _ _ _ H)
                                                                · rcases zite_e H with ⟨c60, H⟩ | ⟨c60, H⟩
                                                                  · refine zA_swT (j := 29) (t := 1177) rfl rfl c35 (by rw [c60]; decide) rfl ?_
                                                                    exact zA_tr (L := [some (zrv x0), some (zrv x1), some (zrv x2), some (zrv x3), some (zrv x4), some (zI x5), none, none, none]) rfl rfl (zmS291_1177 ih _ _ _ _ _ _ _ _ _ H)
                                                                  · rcases zite_e H with ⟨c59, H⟩ | ⟨c59, H⟩
                                                                    · refine zA_swT (j := 30) (t := 1209) rfl rfl c35 (by rw [c59]; decide) rfl ?_
                                                                      exact zA_tr (L := [some (zrv x0), some (zrv x1), some (zrv x2), some (zrv x3), some (zrv x4), some (zI x5), none, none, none]) rfl rfl (zmS291_1209 ih _ _ _ _ _ _ _ _ _ H)
                                                                    · rcases zite_e H with ⟨c58, H⟩ | ⟨c58, H⟩
                                                                      · refine zA_swT (j := 31) (t := 1254) rfl rfl c35 (by rw [c58]; decide) rfl ?_
                                                                        exact zA_tr (L := [some (zrv x0), some (zrv x1), some (zrv x2), some (zrv x3), some (zrv x4), some (zI x5), none, none, none]) rfl rfl (zmS291_1254 ih _ _ _ _ _ _ _ _ _ H)
                                                                      · rcases zite_e H with ⟨c57, H⟩ | ⟨c57, H⟩
                                                                        · refine zA_swT (j := 32) (t := 1345) rfl rfl c35 (by rw [c57]; decide) rfl ?_
                                                                          exact zA_tr (L := [some (zrv x0), some (zrv x1), some (zrv x2), some (zrv x3), some (zrv x4), some (zI x5), none, none, none]) rfl rfl (zmS291_1345 ih _ _ _ _ _ _ _ _ _ H)
                                                                        · rcases zite_e H with ⟨c56, H⟩ | ⟨c56, H⟩
                                                                          · refine zA_swT (j := 33) (t := 1401) rfl rfl c35 (by rw [c56]; decide) rfl ?_
                                                                            exact zA_tr (L := [some (zrv x0), some (zrv x1), some (zrv x2), some (zrv x3), some (zrv x4), some (zI x5), none, none, none]) rfl rfl (zmS291_1401 ih _ _ _ _ _ _ _ _ _ H)
                                                                          · rcases zite_e H with ⟨c55, H⟩ | ⟨c55, H⟩
                                                                            · refine zA_swT (j := 34) (t := 1446) rfl rfl c35 (by rw [c55]; decide) rfl ?_
                                                                              exact zA_tr (L := [some (zrv x0), some (zrv x1), some (zrv x2), some (zrv x3), some (zrv x4), some (zI x5), none, none, none]) rfl rfl (zmS291_1446 ih _ _ _ _ _ _ _ _ _ H)
                                                                            · rcases zite_e H with ⟨c54, H⟩ | ⟨c54, H⟩
                                                                              · refine zA_swT (j := 35) (t := 1491) rfl rfl c35 (by rw [c54]; decide) rfl ?_
                                                                                exact zA_tr (L := [some (zrv x0), some (zrv x1), some (zrv x2), some (zrv x3), some (zrv x4), some (zI x5), none, none, none]) rfl rfl (zmS291_1491 ih _ _ _ _ _ _ _ _ _ H)
                                                                              · rcases zite_e H with ⟨c53, H⟩ | ⟨c53, H⟩
                                                                                · refine zA_swT (j := 36) (t := 1566) rfl rfl c35 (by rw [c53]; decide) rfl ?_
                                                                                  exact zA_tr (L := [some (zrv x0), some (zrv x1), some (zrv x2), some (zrv x3), some (zrv x4), some (zI x5), none, none, none]) rfl rfl (zmS291_1566 ih _ _ _ _ _ _ _ _ _ H)
                                                                                · rcases zite_e H with ⟨c52, H⟩ | ⟨c52, H⟩
                                                                                  · refine zA_swT (j := 37) (t := 1604) rfl rfl c35 (by rw [c52]; decide) rfl ?_
                                                                                    exact zA_tr (L := [some (zrv x0), some (zrv x1), some (zrv x2), some (zrv x3), some (zrv x4), some (zI x5), none, none, none]) rfl rfl (zmS291_1604 ih _ _ _ _ _ _ _ _ _ H)
                                                                                  · rcases zite_e H with ⟨c51, H⟩ | ⟨c51, H⟩
                                                                                    · refine zA_swT (j := 38) (t := 1669) rfl rfl c35 (by rw [c51]; decide) rfl ?_
                                                                                      exact zA_tr (L := [some (zrv x0), some (zrv x1), some (zrv x2), some (zrv x3), some (zrv x4), some (zI x5), none, none, none]) rfl rfl (zmS291_1669 ih _ _ _ _ _ _ _ _ _ H)
                                                                                    · rcases zite_e H with ⟨c50, H⟩ | ⟨c50, H⟩
                                                                                      · refine zA_swT (j := 39) (t := 1714) rfl rfl c35 (by rw [c50]; decide) rfl ?_
                                                                                        exact zA_tr (L := [some (zrv x0), some (zrv x1), some (zrv x2), some (zrv x3), some (zrv x4), some (zI x5), none, none, none]) rfl rfl (zmS291_1714 ih _ _ _ _ _ _ _ _ _ H)
                                                                                      · rcases zite_e H with ⟨c49, H⟩ | ⟨c49, H⟩
                                                                                        · refine zA_swT (j := 40) (t := 1762) rfl rfl c35 (by rw [c49]; decide) rfl ?_
                                                                                          exact zA_tr (L := [some (zrv x0), some (zrv x1), some (zrv x2), some (zrv x3), some (zrv x4), some (zI x5), none, none, none]) rfl rfl (zmS291_1762 ih _ _ _ _ _ _ _ _ _ H)
                                                                                        · rcases zite_e H with ⟨c48, H⟩ | ⟨c48, H⟩
                                                                                          · refine zA_swT (j := 41) (t := 1807) rfl rfl c35 (by rw [c48]; decide) rfl ?_
                                                                                            exact zA_tr (L := [some (zrv x0), some (zrv x1), some (zrv x2), some (zrv x3), some (zrv x4), some (zI x5), none, none, none]) rfl rfl (zmS291_1807 ih _ _ _ _ _ _ _ _ _ H)
                                                                                          · rcases zite_e H with ⟨c47, H⟩ | ⟨c47, H⟩
                                                                                            · refine zA_swT (j := 42) (t := 1842) rfl rfl c35 (by rw [c47]; decide) rfl ?_
                                                                                              exact zA_tr (L := [some (zrv x0), some (zrv x1), some (zrv x2), some (zrv x3), some (zrv x4), some (zI x5), none, none, none]) rfl rfl (zmS291_1842 ih _ _ _ _ _ _ _ _ _ H)
                                                                                            · rcases zite_e H with ⟨c46, H⟩ | ⟨c46, H⟩
                                                                                              · refine zA_swT (j := 43) (t := 1877) rfl rfl c35 (by rw [c46]; decide) rfl ?_
                                                                                                exact zA_tr (L := [some (zrv x0), some (zrv x1), some (zrv x2), some (zrv x3), some (zrv x4), some (zI x5), none, none, none]) rfl rfl (zmS291_1877 ih _ _ _ _ _ _ _ _ _ H)
                                                                                              · rcases zite_e H with ⟨c45, H⟩ | ⟨c45, H⟩
                                                                                                · refine zA_swT (j := 44) (t := 1922) rfl rfl c35 (by rw [c45]; decide) rfl ?_
                                                                                                  exact zA_tr (L := [some (zrv x0), some (zrv x1), some (zrv x2), some (zrv x3), some (zrv x4), some (zI x5), none, none, none]) rfl rfl (zmS291_1922 ih _ _ _ _ _ _ _ _ _ H)
                                                                                                · rcases zite_e H with ⟨c44, H⟩ | ⟨c44, H⟩
                                                                                                  · refine zA_swT (j := 45) (t := 1957) rfl rfl c35 (by rw [c44]; decide) rfl ?_
                                                                                                    exact zA_tr (L := [some (zrv x0), some (zrv x1), some (zrv x2), some (zrv x3), some (zrv x4), some (zI x5), none, none, none]) rfl rfl (zmS291_1957 ih _ _ _ _ _ _ _ _ _ H)
                                                                                                  · rcases zite_e H with ⟨c43, H⟩ | ⟨c43, H⟩
                                                                                                    · refine zA_swT (j := 46) (t := 1999) rfl rfl c35 (by rw [c43]; decide) rfl ?_
                                                                                                      exact zA_tr (L := [some (zrv x0), some (zrv x1), some (zrv x2), some (zrv x3), some (zrv x4), some (zI x5), none, none, none]) rfl rfl (zmS291_1999 ih _ _ _ _ _ _ _ _ _ H)
                                                                                                    · rcases zite_e H with ⟨c42, H⟩ | ⟨c42, H⟩
                                                                                                      · refine zA_swT (j := 47) (t := 2082) rfl rfl c35 (by rw [c42]; decide) rfl ?_
                                                                                                        exact zA_tr (L := [some (zrv x0), some (zrv x1), some (zrv x2), some (zrv x3), some (zrv x4), some (zI x5), none, none, none]) rfl rfl (zmS291_2082 ih _ _ _ _ _ _ _ _ _ H)
                                                                                                      · rcases zite_e H with ⟨c41, H⟩ | ⟨c41, H⟩
                                                                                                        · refine zA_swT (j := 48) (t := 2120) rfl rfl c35 (by rw [c41]; decide) rfl ?_
                                                                                                          exact zA_tr (L := [some (zrv x0), some (zrv x1), some (zrv x2), some (zrv x3), some (zrv x4), some (zI x5), none, none, none]) rfl rfl (zmS291_2120 ih _ _ _ _ _ _ _ _ _ H)
                                                                                                        · rcases zite_e H with ⟨c40, H⟩ | ⟨c40, H⟩
                                                                                                          · refine zA_swT (j := 49) (t := 2152) rfl rfl c35 (by rw [c40]; decide) rfl ?_
                                                                                                            exact zA_tr (L := [some (zrv x0), some (zrv x1), some (zrv x2), some (zrv x3), some (zrv x4), some (zI x5), none, none, none]) rfl rfl (zmS291_2152 ih _ _ _ _ _ _ _ _ _ H)
                                                                                                          · rcases zite_e H with ⟨c39, H⟩ | ⟨c39, H⟩
                                                                                                            · refine zA_swT (j := 50) (t := 2200) rfl rfl c35 (by rw [c39]; decide) rfl ?_
                                                                                                              exact zA_tr (L := [some (zrv x0), some (zrv x1), some (zrv x2), some (zrv x3), some (zrv x4), some (zI x5), none, none, none]) rfl rfl (zmS291_2200 ih _ _ _ _ _ _ _ _ _ H)
                                                                                                            · rcases zite_e H with ⟨c38, H⟩ | ⟨c38, H⟩
                                                                                                              · refine zA_swT (j := 51) (t := 2207) rfl rfl c35 (by rw [c38]; decide) rfl ?_
                                                                                                                exact zA_tr (L := [some (zrv x0), some (zrv x1), some (zrv x2), some (zrv x3), some (zrv x4), some (zI x5), none, none, none]) rfl rfl (zmS291_2207 ih _ _ _ _ _ _ _ _ _ H)
                                                                                                              · rcases zite_e H with ⟨c37, H⟩ | ⟨c37, H⟩
                                                                                                                · refine zA_swT (j := 52) (t := 2282) rfl rfl c35 (by rw [c37]; decide) rfl ?_
                                                                                                                  exact zA_tr (L := [some (zrv x0), some (zrv x1), some (zrv x2), some (zrv x3), some (zrv x4), some (zI x5), none, none, none]) rfl rfl (zmS291_2282 ih _ _ _ _ _ _ _ _ _ H)
                                                                                                                · rcases zite_e H with ⟨c36, H⟩ | ⟨c36, H⟩
                                                                                                                  · refine zA_swT (j := 53) (t := 2304) rfl rfl c35 (by rw [c36]; decide) rfl ?_
                                                                                                                    exact zA_tr (L := [some (zrv x0), some (zrv x1), some (zrv x2), some (zrv x3), some (zrv x4), some (zI x5), none, none, none]) rfl rfl (zmS291_2304 ih _ _ _ _ _ _ _ _ _ H)
                                                                                                                  · cases H
-- 291: ReleaseHouseLaw.law([I)Z
def zm291 (x0 : zq) (h : zH) : zRs Int32 :=
  zlet (znw h 12 0 18) fun h21 =>
  zob 11 (some (12, zct h 12)) fun p23 i24 =>
  zb2 (zm39 (some (12, zct h 12)) h21) fun _ h27 =>
  zlet (some (12, zct h 12)) fun x28 =>
  zlet (znw h27 13 0 78) fun h30 =>
  zob 12 (some (13, zct h27 13)) fun p32 i33 =>
  zb2 (zm136 (some (13, zct h27 13)) h30) fun _ h36 =>
  zlet (some (13, zct h27 13)) fun x37 =>
  if (1 : Int32) < 0 ∨ 100000 < (1 : Int32).toNatClampNeg then none else
  zlet (znw h36 38 (1 : Int32).toNatClampNeg (1 : Int32).toNatClampNeg) fun h39 =>
  zlet (some (38, zct h36 38)) fun x41 =>
  if (1 : Int32) < 0 ∨ 100000 < (1 : Int32).toNatClampNeg then none else
  zlet (znw h39 39 (1 : Int32).toNatClampNeg (1 : Int32).toNatClampNeg) fun h43 =>
  zlet (some (39, zct h39 39)) fun x45 =>
  zm291_16 zN0 x0 x28 x37 x41 x45 (0 : Int32) h43
theorem zmS291 {x0 : zq} {h : zH} {r : Int32 ⊕ Nat} {h' : zH} (H : zm291 x0 h = some (r, h')) : zAt 291 0 [some (zrv x0), none, none, none, none, none, none, none, none] [] h (zoI r) h' := by
  unfold zm291 at H
  obtain ⟨h21, e22, H⟩ := zlet_e H
  refine zA_new (n := 18) rfl rfl (fun _ _ _ _ => rfl) e22 ?_
  refine zA_dup rfl rfl (zcat_rv _) ?_
  obtain ⟨p23, i24, e25, c26, H⟩ := zob_e H
  obtain ⟨u48, h27, C, H⟩ := zb2_e H
  refine zA_callU (as := [zrv (some (12, zct h 12))]) (st' := [zrv (some (12, zct h 12))]) rfl rfl rfl (zrcv_Q e25 c26) rfl (zmE39 _) rfl (zmS39 C) ?_
  obtain ⟨x28, e29, H⟩ := zlet_e H
  refine zA_astn2 rfl rfl e29 (zset1 (L' := [some (zrv x0), some (zrv x28), none, none, none, none, none, none, none]) (zcat_rv _) rfl (zpcV rfl (zcat_rv _))) ?_
  obtain ⟨h30, e31, H⟩ := zlet_e H
  refine zA_new (n := 78) rfl rfl (fun _ _ _ _ => rfl) e31 ?_
  refine zA_dup rfl rfl (zcat_rv _) ?_
  obtain ⟨p32, i33, e34, c35, H⟩ := zob_e H
  obtain ⟨u47, h36, C, H⟩ := zb2_e H
  refine zA_callU (as := [zrv (some (13, zct h27 13))]) (st' := [zrv (some (13, zct h27 13))]) rfl rfl rfl (zrcv_Q e34 c35) rfl (zmE136 _) rfl (zmS136 C) ?_
  obtain ⟨x37, e38, H⟩ := zlet_e H
  refine zA_astn2 rfl rfl e38 (zset1 (L' := [some (zrv x0), some (zrv x28), some (zrv x37), none, none, none, none, none, none]) (zcat_rv _) rfl (zpcV rfl (zcat_rv _))) ?_
  refine zA_push rfl rfl zkk5 ?_
  rcases zite_e H with ⟨_, H⟩ | ⟨ch39, H⟩
  · cases H
  obtain ⟨h39, e40, H⟩ := zlet_e H
  refine zA_newA rfl rfl (fun _ _ _ _ _ => rfl) ch39 e40 ?_
  obtain ⟨x41, e42, H⟩ := zlet_e H
  refine zA_astn2 rfl rfl e42 (zset1 (L' := [some (zrv x0), some (zrv x28), some (zrv x37), some (zrv x41), none, none, none, none, none]) (zcat_rv _) rfl (zpcV rfl (zcat_rv _))) ?_
  refine zA_push rfl rfl zkk5 ?_
  rcases zite_e H with ⟨_, H⟩ | ⟨ch43, H⟩
  · cases H
  obtain ⟨h43, e44, H⟩ := zlet_e H
  refine zA_newA rfl rfl (fun _ _ _ _ _ => rfl) ch43 e44 ?_
  obtain ⟨x45, e46, H⟩ := zlet_e H
  refine zA_ast2 rfl rfl e46 (zset1 (L' := [some (zrv x0), some (zrv x28), some (zrv x37), some (zrv x41), some (zrv x45), none, none, none, none]) (zcat_rv _) rfl (zpcV rfl (zcat_rv _))) ?_
  refine zA_push rfl rfl zkk7 ?_
  refine zA_ist2 rfl rfl rfl (zset1 (L' := [some (zrv x0), some (zrv x28), some (zrv x37), some (zrv x41), some (zrv x45), some (zI (0 : Int32)), none, none, none]) rfl rfl (zpcV rfl (zcat_rv _))) ?_
  exact zA_tr (L := [some (zrv x0), some (zrv x28), some (zrv x37), some (zrv x41), some (zrv x45), some (zI (0 : Int32)), none, none, none]) rfl rfl (zmS291_16 zN0 _ _ _ _ _ _ _ _ _ H)
theorem zmE291 (x0 : zq) : zpad (zPr.2.1 291).1 (zil [zrv x0]) = [some (zrv x0), none, none, none, none, none, none, none, none] := by
  simp only [zil_A, zil_I, zil_F, zil_D, zil_N]
  rfl
