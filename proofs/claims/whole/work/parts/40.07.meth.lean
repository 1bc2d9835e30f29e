set_option maxRecDepth 16384
/-! The methods read back (printed by wip/whole/gen/dec.py). -/
-- 288: ReleaseHouseLaw.experiment(LReleaseHouse;IIIII[J)I
def zm288 (x0 : zq) (x1 : Int32) (x2 : Int32) (x3 : Int32) (x4 : Int32) (x5 : Int32) (x6 : zq) (h : zH) : zRs Int32 :=
  zob 11 x0 fun p21 i22 =>
  zbH [(0, 11, 0, 1), (0, 11, 1, 2)] 8 (zm126 x0 x1 x2 x3 x4 x5 h) fun x26 h25 =>
  zar 3 x6 (0 : Int32) h25 fun p27 i28 j29 =>
  zlet (zsl h25 p27 i28 j29 (x26.toInt64)) fun h34 =>
  some (.inl (0 : Int32), h34)
theorem zmS288 {x0 : zq} {x1 : Int32} {x2 : Int32} {x3 : Int32} {x4 : Int32} {x5 : Int32} {x6 : zq} {h : zH} {r : Int32 ⊕ Nat} {h' : zH} (H : zm288 x0 x1 x2 x3 x4 x5 x6 h = some (r, h')) : zAt 288 0 [some (zrv x0), some (zI x1), some (zI x2), some (zI x3), some (zI x4), some (zI x5), some (zrv x6), none] [] h (zoI r) h' := by
  unfold zm288 at H
  refine zA_ald rfl rfl rfl ?_
  refine zA_push rfl rfl zkk7 ?_
  refine zA_aldn rfl rfl rfl ?_
  refine zA_ldn rfl rfl rfl ?_
  refine zA_ldn rfl rfl rfl ?_
  refine zA_ldn rfl rfl rfl ?_
  refine zA_ld rfl rfl rfl ?_
  refine zA_ld rfl rfl rfl ?_
  obtain ⟨p21, i22, e23, c24, H⟩ := zob_e H
  rcases zbH_e H with ⟨x26, h25, C, H⟩ | ⟨E, h25, c36, C, hc, H⟩
  · refine zA_callV (as := [zrv x0, zI x1, zI x2, zI x3, zI x4, zI x5]) (st' := [zI (0 : Int32), zrv x6]) rfl rfl rfl (zrcv_Q e23 c24) rfl (zmE126 _ _ _ _ _ _) rfl (zmS126 C) ?_
    refine zA_st (st' := [zJ (x26.toInt64), zI (0 : Int32), zrv x6]) rfl rfl rfl rfl ?_
    obtain ⟨p27, i28, j29, e30, c31, c32, e33, H⟩ := zar_e H
    obtain ⟨h34, e35, H⟩ := zlet_e H
    refine zA_las rfl rfl e30 c31 c32 e33 e35 ?_
    refine zA_go rfl rfl ?_
    refine zA_tr (L := [none, none, none, none, none, none, none, none]) rfl rfl ?_
    refine zA_push rfl rfl zkk7 ?_
    cases H
    exact zA_ret rfl rfl
  · cases H
    exact zA_callH (as := [zrv x0, zI x1, zI x2, zI x3, zI x4, zI x5]) (st' := [zI (0 : Int32), zrv x6]) rfl rfl (zrcv_Q e23 c24) rfl (zmE126 _ _ _ _ _ _) rfl rfl rfl (List.cons_ne_nil _ _) hc (zmS126 C)
theorem zmE288 (x0 : zq) (x1 : Int32) (x2 : Int32) (x3 : Int32) (x4 : Int32) (x5 : Int32) (x6 : zq) : zpad (zPr.2.1 288).1 (zil [zrv x0, zI x1, zI x2, zI x3, zI x4, zI x5, zrv x6]) = [some (zrv x0), some (zI x1), some (zI x2), some (zI x3), some (zI x4), some (zI x5), some (zrv x6), none] := by
  simp only [zil_A, zil_I, zil_F, zil_D, zil_N]
  rfl
def zm238_63 (k31 : zq → Int32 → Int32 → Int32 → Int32 → Int32 → Int32 → Int32 → Int32 → zH → zRs Int32) (x0 : zq) (x1 : Int32) (x2 : Int32) (x3 : Int32) (x4 : Int32) (x5 : Int32) (x6 : Int32) (x8 : Int32) (s0 : Int32) (h : zH) : zRs Int32 :=
  zlet (x8 + (1 : Int32)) fun x21 =>
  k31 x0 x1 x2 x3 x4 x5 x6 s0 x21 h
theorem zmS238_63 {k31 : zq → Int32 → Int32 → Int32 → Int32 → Int32 → Int32 → Int32 → Int32 → zH → zRs Int32} (hk31 : ∀ (x0 : zq) (x1 : Int32) (x2 : Int32) (x3 : Int32) (x4 : Int32) (x5 : Int32) (x6 : Int32) (x7 : Int32) (x8 : Int32) (h : zH) (r : Int32 ⊕ Nat) (h' : zH), k31 x0 x1 x2 x3 x4 x5 x6 x7 x8 h = some (r, h') → zAt 238 31 [some (zrv x0), some (zI x1), some (zI x2), some (zI x3), some (zI x4), some (zI x5), some (zI x6), some (zI x7), some (zI x8)] [] h (zoI r) h') : ∀ (x0 : zq) (x1 : Int32) (x2 : Int32) (x3 : Int32) (x4 : Int32) (x5 : Int32) (x6 : Int32) (x8 : Int32) (s0 : Int32) (h : zH) (r : Int32 ⊕ Nat) (h' : zH), zm238_63 k31 x0 x1 x2 x3 x4 x5 x6 x8 s0 h = some (r, h') → zAt 238 63 [some (zrv x0), some (zI x1), some (zI x2), some (zI x3), some (zI x4), some (zI x5), some (zI x6), none, some (zI x8)] [zI s0] h (zoI r) h' := by
  intro x0 x1 x2 x3 x4 x5 x6 x8 s0 h r h' H
  unfold zm238_63 at H
  refine zA_ist2 rfl rfl rfl (zset1 (L' := [some (zrv x0), some (zI x1), some (zI x2), some (zI x3), some (zI x4), some (zI x5), some (zI x6), some (zI s0), some (zI x8)]) rfl rfl (zpcV rfl rfl)) ?_
  obtain ⟨x21, e22, H⟩ := zlet_e H
  refine zA_inc rfl rfl rfl (e22.trans (congrArg (_ + ·) zkk8)) (zset1 (L' := [some (zrv x0), some (zI x1), some (zI x2), some (zI x3), some (zI x4), some (zI x5), some (zI x6), some (zI s0), some (zI x21)]) rfl rfl (zpcV rfl rfl)) ?_
  refine zA_go rfl rfl ?_
  exact zA_tr (L := [some (zrv x0), some (zI x1), some (zI x2), some (zI x3), some (zI x4), some (zI x5), some (zI x6), some (zI s0), some (zI x21)]) rfl rfl (hk31 _ _ _ _ _ _ _ _ _ _ _ _ H)
def zm238_31 (k66 : zq → Int32 → Int32 → Int32 → Int32 → Int32 → Int32 → Int32 → zH → zRs Int32) : Nat → zq → Int32 → Int32 → Int32 → Int32 → Int32 → Int32 → Int32 → Int32 → zH → zRs Int32
  | 0, _, _, _, _, _, _, _, _, _, _ => none
  | n + 1, x0, x1, x2, x3, x4, x5, x6, x7, x8, h =>
    zob 12 x0 fun p21 i22 =>
    if (zi h p21 i22 71) ≤ x8 then
      k66 x0 x1 x2 x3 x4 x5 x6 x7 h
    else
      if x7 = 0 then
        zm238_63 (zm238_31 k66 n) x0 x1 x2 x3 x4 x5 x6 x8 (0 : Int32) h
      else
        zar 2 (zr h p21 i22 77) x8 h fun p27 i28 j29 =>
        if (zi h p27 i28 j29) = 0 then
          zai (zr h p21 i22 72) x8 h fun p35 i36 j37 =>
          if (zi h p35 i36 j37) = x1 then
            zai (zr h p21 i22 74) x8 h fun p43 i44 j45 =>
            if x4 < (zi h p43 i44 j45) then
              zm238_63 (zm238_31 k66 n) x0 x1 x2 x3 x4 x5 x6 x8 (1 : Int32) h
            else
              zai (zr h p21 i22 75) x8 h fun p51 i52 j53 =>
              if x3 ≤ (zi h p51 i52 j53) then
                zm238_63 (zm238_31 k66 n) x0 x1 x2 x3 x4 x5 x6 x8 (0 : Int32) h
              else
                zm238_63 (zm238_31 k66 n) x0 x1 x2 x3 x4 x5 x6 x8 (1 : Int32) h
          else
            zm238_63 (zm238_31 k66 n) x0 x1 x2 x3 x4 x5 x6 x8 (1 : Int32) h
        else
          zm238_63 (zm238_31 k66 n) x0 x1 x2 x3 x4 x5 x6 x8 (1 : Int32) h
theorem zmS238_31 {k66 : zq → Int32 → Int32 → Int32 → Int32 → Int32 → Int32 → Int32 → zH → zRs Int32} (hk66 : ∀ (x0 : zq) (x1 : Int32) (x2 : Int32) (x3 : Int32) (x4 : Int32) (x5 : Int32) (x6 : Int32) (x7 : Int32) (h : zH) (r : Int32 ⊕ Nat) (h' : zH), k66 x0 x1 x2 x3 x4 x5 x6 x7 h = some (r, h') → zAt 238 66 [some (zrv x0), some (zI x1), some (zI x2), some (zI x3), some (zI x4), some (zI x5), some (zI x6), some (zI x7), none] [] h (zoI r) h') : ∀ (n : Nat) (x0 : zq) (x1 : Int32) (x2 : Int32) (x3 : Int32) (x4 : Int32) (x5 : Int32) (x6 : Int32) (x7 : Int32) (x8 : Int32) (h : zH) (r : Int32 ⊕ Nat) (h' : zH), zm238_31 k66 n x0 x1 x2 x3 x4 x5 x6 x7 x8 h = some (r, h') → zAt 238 31 [some (zrv x0), some (zI x1), some (zI x2), some (zI x3), some (zI x4), some (zI x5), some (zI x6), some (zI x7), some (zI x8)] [] h (zoI r) h' := by
  intro n
  induction n with
  | zero => intro x0 x1 x2 x3 x4 x5 x6 x7 x8 h r h' H; cases H
  | succ n ih =>
    intro x0 x1 x2 x3 x4 x5 x6 x7 x8 h r h' H
    unfold zm238_31 at H
    refine zA_ld rfl rfl rfl ?_
    refine zA_aldn rfl rfl rfl ?_
    obtain ⟨p21, i22, e23, c24, H⟩ := zob_e H
    refine zA_gf0 rfl rfl (Or.inl rfl) e23 c24 ?_
    rcases zite_e H with ⟨c25, H⟩ | ⟨c25, H⟩
    · refine zA_brT (c := (zi h p21 i22 71) ≤ x8) rfl rfl rfl c25 ?_
      exact zA_tr (L := [some (zrv x0), some (zI x1), some (zI x2), some (zI x3), some (zI x4), some (zI x5), some (zI x6), some (zI x7), none]) rfl rfl (hk66 _ _ _ _ _ _ _ _ _ _ _ H)
    · refine zA_brF (c := (zi h p21 i22 71) ≤ x8) rfl rfl rfl c25 ?_
      refine zA_ld rfl rfl rfl ?_
      rcases zite_e H with ⟨c26, H⟩ | ⟨c26, H⟩
      · refine zA_brT (c := x7 = 0) rfl rfl rfl c26 ?_
        refine zA_tr (L := [some (zrv x0), some (zI x1), some (zI x2), some (zI x3), some (zI x4), some (zI x5), some (zI x6), none, some (zI x8)]) rfl rfl ?_
        refine zA_push rfl rfl zkk7 ?_
        exact zA_tr (L := [some (zrv x0), some (zI x1), some (zI x2), some (zI x3), some (zI x4), some (zI x5), some (zI x6), none, some (zI x8)]) rfl rfl (zmS238_63 ih _ _ _ _ _ _ _ _ _ _ _ _ H)
      · refine zA_brF (c := x7 = 0) rfl rfl rfl c26 ?_
        refine zA_aldn rfl rfl rfl ?_
        refine zA_gf3 rfl rfl e23 c24 ?_
        refine zA_ld rfl rfl rfl ?_
        obtain ⟨p27, i28, j29, e30, c31, c32, e33, H⟩ := zar_e H
        refine zA_bal rfl rfl e30 c31 c32 e33 ?_
        rcases zite_e H with ⟨c34, H⟩ | ⟨c34, H⟩
        · refine zA_brF' (c := (zi h p27 i28 j29) = 0) rfl rfl rfl c34 ?_
          refine zA_aldn rfl rfl rfl ?_
          refine zA_gf3 rfl rfl e23 c24 ?_
          refine zA_ld rfl rfl rfl ?_
          obtain ⟨p35, i36, j37, e38, c39, c40, e41, H⟩ := zai_e H
          refine zA_ial rfl rfl e38 c39 c40 e41 ?_
          refine zA_ldn rfl rfl rfl ?_
          rcases zite_e H with ⟨c42, H⟩ | ⟨c42, H⟩
          · refine zA_brF' (c := (zi h p35 i36 j37) = x1) rfl rfl rfl c42 ?_
            refine zA_ld rfl rfl rfl ?_
            refine zA_aldn rfl rfl rfl ?_
            refine zA_gf3 rfl rfl e23 c24 ?_
            refine zA_ld rfl rfl rfl ?_
            obtain ⟨p43, i44, j45, e46, c47, c48, e49, H⟩ := zai_e H
            refine zA_ial rfl rfl e46 c47 c48 e49 ?_
            rcases zite_e H with ⟨c50, H⟩ | ⟨c50, H⟩
            · refine zA_brT (c := x4 < (zi h p43 i44 j45)) rfl rfl rfl c50 ?_
              refine zA_tr (L := [some (zrv x0), some (zI x1), some (zI x2), some (zI x3), some (zI x4), some (zI x5), some (zI x6), none, some (zI x8)]) rfl rfl ?_
              refine zA_push rfl rfl zkk5 ?_
              refine zA_go rfl rfl ?_
              exact zA_tr (L := [some (zrv x0), some (zI x1), some (zI x2), some (zI x3), some (zI x4), some (zI x5), some (zI x6), none, some (zI x8)]) rfl rfl (zmS238_63 ih _ _ _ _ _ _ _ _ _ _ _ _ H)
            · refine zA_brF (c := x4 < (zi h p43 i44 j45)) rfl rfl rfl c50 ?_
              refine zA_ldn rfl rfl rfl ?_
              refine zA_aldn rfl rfl rfl ?_
              refine zA_gf3 rfl rfl e23 c24 ?_
              refine zA_ld rfl rfl rfl ?_
              obtain ⟨p51, i52, j53, e54, c55, c56, e57, H⟩ := zai_e H
              refine zA_ial rfl rfl e54 c55 c56 e57 ?_
              rcases zite_e H with ⟨c58, H⟩ | ⟨c58, H⟩
              · refine zA_brT (c := x3 ≤ (zi h p51 i52 j53)) rfl rfl rfl c58 ?_
                refine zA_tr (L := [some (zrv x0), some (zI x1), some (zI x2), some (zI x3), some (zI x4), some (zI x5), some (zI x6), none, some (zI x8)]) rfl rfl ?_
                refine zA_push rfl rfl zkk7 ?_
                exact zA_tr (L := [some (zrv x0), some (zI x1), some (zI x2), some (zI x3), some (zI x4), some (zI x5), some (zI x6), none, some (zI x8)]) rfl rfl (zmS238_63 ih _ _ _ _ _ _ _ _ _ _ _ _ H)
              · refine zA_brF (c := x3 ≤ (zi h p51 i52 j53)) rfl rfl rfl c58 ?_
                refine zA_tr (L := [some (zrv x0), some (zI x1), some (zI x2), some (zI x3), some (zI x4), some (zI x5), some (zI x6), none, some (zI x8)]) rfl rfl ?_
                refine zA_push rfl rfl zkk5 ?_
                refine zA_go rfl rfl ?_
                exact zA_tr (L := [some (zrv x0), some (zI x1), some (zI x2), some (zI x3), some (zI x4), some (zI x5), some (zI x6), none, some (zI x8)]) rfl rfl (zmS238_63 ih _ _ _ _ _ _ _ _ _ _ _ _ H)
          · refine zA_brT' (c := (zi h p35 i36 j37) = x1) rfl rfl rfl c42 ?_
            refine zA_tr (L := [some (zrv x0), some (zI x1), some (zI x2), some (zI x3), some (zI x4), some (zI x5), some (zI x6), none, some (zI x8)]) rfl rfl ?_
            refine zA_push rfl rfl zkk5 ?_
            refine zA_go rfl rfl ?_
            exact zA_tr (L := [some (zrv x0), some (zI x1), some (zI x2), some (zI x3), some (zI x4), some (zI x5), some (zI x6), none, some (zI x8)]) rfl rfl (zmS238_63 ih _ _ _ _ _ _ _ _ _ _ _ _ H)
        · refine zA_brT' (c := (zi h p27 i28 j29) = 0) rfl rfl rfl c34 ?_
          refine zA_tr (L := [some (zrv x0), some (zI x1), some (zI x2), some (zI x3), some (zI x4), some (zI x5), some (zI x6), none, some (zI x8)]) rfl rfl ?_
          refine zA_push rfl rfl zkk5 ?_
          refine zA_go rfl rfl ?_
          exact zA_tr (L := [some (zrv x0), some (zI x1), some (zI x2), some (zI x3), some (zI x4), some (zI x5), some (zI x6), none, some (zI x8)]) rfl rfl (zmS238_63 ih _ _ _ _ _ _ _ _ _ _ _ _ H)
def zm238_80 (x0 : zq) (x1 : Int32) (x2 : Int32) (x3 : Int32) (x4 : Int32) (x5 : Int32) (s0 : zq) (s1 : Int32) (h : zH) : zRs Int32 :=
  zob 12 s0 fun p21 i22 =>
  zlet (zsi h p21 i22 0 s1) fun h25 =>
  zob 12 x0 fun p27 i28 =>
  if (zi h25 p27 i28 0) ≤ 0 then
    zar 1 (zr h25 p27 i28 72) (zi h25 p27 i28 71) h25 fun p32 i33 j34 =>
    zlet (zsi h25 p32 i33 j34 x1) fun h39 =>
    zar 1 (zr h39 p27 i28 73) (zi h39 p27 i28 71) h39 fun p41 i42 j43 =>
    zlet (zsi h39 p41 i42 j43 x2) fun h48 =>
    zar 1 (zr h48 p27 i28 74) (zi h48 p27 i28 71) h48 fun p50 i51 j52 =>
    zlet (zsi h48 p50 i51 j52 x3) fun h57 =>
    zar 1 (zr h57 p27 i28 75) (zi h57 p27 i28 71) h57 fun p59 i60 j61 =>
    zlet (zsi h57 p59 i60 j61 x4) fun h66 =>
    zar 1 (zr h66 p27 i28 76) (zi h66 p27 i28 71) h66 fun p68 i69 j70 =>
    zlet (zsi h66 p68 i69 j70 x5) fun h75 =>
    zlet (zsi h75 p27 i28 71 ((zi h75 p27 i28 71) + (1 : Int32))) fun h77 =>
    some (.inl ((zi h77 p27 i28 71) - (1 : Int32)), h77)
  else
    some (.inl (0 : Int32), h25)
theorem zmS238_80 : ∀ (x0 : zq) (x1 : Int32) (x2 : Int32) (x3 : Int32) (x4 : Int32) (x5 : Int32) (s0 : zq) (s1 : Int32) (h : zH) (r : Int32 ⊕ Nat) (h' : zH), zm238_80 x0 x1 x2 x3 x4 x5 s0 s1 h = some (r, h') → zAt 238 80 [some (zrv x0), some (zI x1), some (zI x2), some (zI x3), some (zI x4), some (zI x5), none, none, none] [zI s1, zrv s0] h (zoI r) h' := by
  intro x0 x1 x2 x3 x4 x5 s0 s1 h r h' H
  unfold zm238_80 at H
  obtain ⟨p21, i22, e23, c24, H⟩ := zob_e H
  obtain ⟨h25, e26, H⟩ := zlet_e H
  refine zA_pf0 rfl rfl e23 c24 e26 ?_
  refine zA_aldn rfl rfl rfl ?_
  obtain ⟨p27, i28, e29, c30, H⟩ := zob_e H
  refine zA_gf0 rfl rfl (Or.inl rfl) e29 c30 ?_
  rcases zite_e H with ⟨c31, H⟩ | ⟨c31, H⟩
  · refine zA_brT (c := (zi h25 p27 i28 0) ≤ 0) rfl rfl rfl c31 ?_
    refine zA_aldn rfl rfl rfl ?_
    refine zA_gf3 rfl rfl e29 c30 ?_
    refine zA_aldn rfl rfl rfl ?_
    refine zA_gf0 rfl rfl (Or.inl rfl) e29 c30 ?_
    refine zA_ldn rfl rfl rfl ?_
    obtain ⟨p32, i33, j34, e35, c36, c37, e38, H⟩ := zar_e H
    obtain ⟨h39, e40, H⟩ := zlet_e H
    refine zA_ias rfl rfl e35 c36 c37 e38 e40 ?_
    refine zA_aldn rfl rfl rfl ?_
    refine zA_gf3 rfl rfl e29 c30 ?_
    refine zA_aldn rfl rfl rfl ?_
    refine zA_gf0 rfl rfl (Or.inl rfl) e29 c30 ?_
    refine zA_ldn rfl rfl rfl ?_
    obtain ⟨p41, i42, j43, e44, c45, c46, e47, H⟩ := zar_e H
    obtain ⟨h48, e49, H⟩ := zlet_e H
    refine zA_ias rfl rfl e44 c45 c46 e47 e49 ?_
    refine zA_aldn rfl rfl rfl ?_
    refine zA_gf3 rfl rfl e29 c30 ?_
    refine zA_aldn rfl rfl rfl ?_
    refine zA_gf0 rfl rfl (Or.inl rfl) e29 c30 ?_
    refine zA_ldn rfl rfl rfl ?_
    obtain ⟨p50, i51, j52, e53, c54, c55, e56, H⟩ := zar_e H
    obtain ⟨h57, e58, H⟩ := zlet_e H
    refine zA_ias rfl rfl e53 c54 c55 e56 e58 ?_
    refine zA_aldn rfl rfl rfl ?_
    refine zA_gf3 rfl rfl e29 c30 ?_
    refine zA_aldn rfl rfl rfl ?_
    refine zA_gf0 rfl rfl (Or.inl rfl) e29 c30 ?_
    refine zA_ld rfl rfl rfl ?_
    obtain ⟨p59, i60, j61, e62, c63, c64, e65, H⟩ := zar_e H
    obtain ⟨h66, e67, H⟩ := zlet_e H
    refine zA_ias rfl rfl e62 c63 c64 e65 e67 ?_
    refine zA_aldn rfl rfl rfl ?_
    refine zA_gf3 rfl rfl e29 c30 ?_
    refine zA_aldn rfl rfl rfl ?_
    refine zA_gf0 rfl rfl (Or.inl rfl) e29 c30 ?_
    refine zA_ld rfl rfl rfl ?_
    obtain ⟨p68, i69, j70, e71, c72, c73, e74, H⟩ := zar_e H
    obtain ⟨h75, e76, H⟩ := zlet_e H
    refine zA_ias rfl rfl e71 c72 c73 e74 e76 ?_
    refine zA_aldn rfl rfl rfl ?_
    refine zA_dup rfl rfl (zcat_rv _) ?_
    refine zA_gf0 rfl rfl (Or.inl rfl) e29 c30 ?_
    refine zA_push rfl rfl zkk5 ?_
    refine zA_st (st' := [zI ((zi h75 p27 i28 71) + (1 : Int32)), zrv x0]) rfl rfl rfl rfl ?_
    obtain ⟨h77, e78, H⟩ := zlet_e H
    refine zA_pf0 rfl rfl e29 c30 e78 ?_
    refine zA_aldn rfl rfl rfl ?_
    refine zA_gf0 rfl rfl (Or.inl rfl) e29 c30 ?_
    refine zA_push rfl rfl zkk5 ?_
    refine zA_st (st' := [zI ((zi h77 p27 i28 71) - (1 : Int32))]) rfl rfl rfl rfl ?_
    cases H
    exact zA_ret rfl rfl
  · refine zA_brF (c := (zi h25 p27 i28 0) ≤ 0) rfl rfl rfl c31 ?_
    refine zA_push rfl rfl zkk7 ?_
    cases H
    exact zA_ret rfl rfl
def zm238_66 (x0 : zq) (x1 : Int32) (x2 : Int32) (x3 : Int32) (x4 : Int32) (x5 : Int32) (x6 : Int32) (x7 : Int32) (h : zH) : zRs Int32 :=
  if x6 = 0 then
    zm238_80 x0 x1 x2 x3 x4 x5 x0 (1 : Int32) h
  else
    zob 12 x0 fun p22 i23 =>
    if (zi h p22 i23 71) = (8 : Int32) then
      zm238_80 x0 x1 x2 x3 x4 x5 x0 (2 : Int32) h
    else
      if x7 = 0 then
        zm238_80 x0 x1 x2 x3 x4 x5 x0 (2 : Int32) h
      else
        zm238_80 x0 x1 x2 x3 x4 x5 x0 (0 : Int32) h
theorem zmS238_66 : ∀ (x0 : zq) (x1 : Int32) (x2 : Int32) (x3 : Int32) (x4 : Int32) (x5 : Int32) (x6 : Int32) (x7 : Int32) (h : zH) (r : Int32 ⊕ Nat) (h' : zH), zm238_66 x0 x1 x2 x3 x4 x5 x6 x7 h = some (r, h') → zAt 238 66 [some (zrv x0), some (zI x1), some (zI x2), some (zI x3), some (zI x4), some (zI x5), some (zI x6), some (zI x7), none] [] h (zoI r) h' := by
  intro x0 x1 x2 x3 x4 x5 x6 x7 h r h' H
  unfold zm238_66 at H
  refine zA_aldn rfl rfl rfl ?_
  refine zA_ld rfl rfl rfl ?_
  rcases zite_e H with ⟨c21, H⟩ | ⟨c21, H⟩
  · refine zA_brF' (c := x6 = 0) rfl rfl rfl c21 ?_
    refine zA_push rfl rfl zkk5 ?_
    refine zA_go rfl rfl ?_
    exact zA_tr (L := [some (zrv x0), some (zI x1), some (zI x2), some (zI x3), some (zI x4), some (zI x5), none, none, none]) rfl rfl (zmS238_80 _ _ _ _ _ _ _ _ _ _ _ H)
  · refine zA_brT' (c := x6 = 0) rfl rfl rfl c21 ?_
    refine zA_tr (L := [some (zrv x0), some (zI x1), some (zI x2), some (zI x3), some (zI x4), some (zI x5), none, some (zI x7), none]) rfl rfl ?_
    refine zA_aldn rfl rfl rfl ?_
    obtain ⟨p22, i23, e24, c25, H⟩ := zob_e H
    refine zA_gf0 rfl rfl (Or.inl rfl) e24 c25 ?_
    refine zA_push rfl rfl zkk0 ?_
    rcases zite_e H with ⟨c26, H⟩ | ⟨c26, H⟩
    · refine zA_brT (c := (zi h p22 i23 71) = (8 : Int32)) rfl rfl rfl c26 ?_
      refine zA_tr (L := [some (zrv x0), some (zI x1), some (zI x2), some (zI x3), some (zI x4), some (zI x5), none, none, none]) rfl rfl ?_
      refine zA_push rfl rfl zkk23 ?_
      refine zA_go rfl rfl ?_
      exact zA_tr (L := [some (zrv x0), some (zI x1), some (zI x2), some (zI x3), some (zI x4), some (zI x5), none, none, none]) rfl rfl (zmS238_80 _ _ _ _ _ _ _ _ _ _ _ H)
    · refine zA_brF (c := (zi h p22 i23 71) = (8 : Int32)) rfl rfl rfl c26 ?_
      refine zA_ld rfl rfl rfl ?_
      rcases zite_e H with ⟨c27, H⟩ | ⟨c27, H⟩
      · refine zA_brF' (c := x7 = 0) rfl rfl rfl c27 ?_
        refine zA_tr (L := [some (zrv x0), some (zI x1), some (zI x2), some (zI x3), some (zI x4), some (zI x5), none, none, none]) rfl rfl ?_
        refine zA_push rfl rfl zkk23 ?_
        refine zA_go rfl rfl ?_
        exact zA_tr (L := [some (zrv x0), some (zI x1), some (zI x2), some (zI x3), some (zI x4), some (zI x5), none, none, none]) rfl rfl (zmS238_80 _ _ _ _ _ _ _ _ _ _ _ H)
      · refine zA_brT' (c := x7 = 0) rfl rfl rfl c27 ?_
        refine zA_tr (L := [some (zrv x0), some (zI x1), some (zI x2), some (zI x3), some (zI x4), some (zI x5), none, none, none]) rfl rfl ?_
        refine zA_push rfl rfl zkk7 ?_
        exact zA_tr (L := [some (zrv x0), some (zI x1), some (zI x2), some (zI x3), some (zI x4), some (zI x5), none, none, none]) rfl rfl (zmS238_80 _ _ _ _ _ _ _ _ _ _ _ H)
def zm238_26 (x0 : zq) (x1 : Int32) (x2 : Int32) (x3 : Int32) (x4 : Int32) (x5 : Int32) (s0 : Int32) (h : zH) : zRs Int32 :=
  zm238_31 (zm238_66) zN0 x0 x1 x2 x3 x4 x5 s0 (1 : Int32) (0 : Int32) h
theorem zmS238_26 : ∀ (x0 : zq) (x1 : Int32) (x2 : Int32) (x3 : Int32) (x4 : Int32) (x5 : Int32) (s0 : Int32) (h : zH) (r : Int32 ⊕ Nat) (h' : zH), zm238_26 x0 x1 x2 x3 x4 x5 s0 h = some (r, h') → zAt 238 26 [some (zrv x0), some (zI x1), some (zI x2), some (zI x3), some (zI x4), some (zI x5), none, none, none] [zI s0] h (zoI r) h' := by
  intro x0 x1 x2 x3 x4 x5 s0 h r h' H
  unfold zm238_26 at H
  refine zA_ist2 rfl rfl rfl (zset1 (L' := [some (zrv x0), some (zI x1), some (zI x2), some (zI x3), some (zI x4), some (zI x5), some (zI s0), none, none]) rfl rfl (zpcV rfl rfl)) ?_
  refine zA_push rfl rfl zkk5 ?_
  refine zA_ist2 rfl rfl rfl (zset1 (L' := [some (zrv x0), some (zI x1), some (zI x2), some (zI x3), some (zI x4), some (zI x5), some (zI s0), some (zI (1 : Int32)), none]) rfl rfl (zpcV rfl rfl)) ?_
  refine zA_push rfl rfl zkk7 ?_
  refine zA_ist2 rfl rfl rfl (zset1 (L' := [some (zrv x0), some (zI x1), some (zI x2), some (zI x3), some (zI x4), some (zI x5), some (zI s0), some (zI (1 : Int32)), some (zI (0 : Int32))]) rfl rfl (zpcV rfl rfl)) ?_
  exact zA_tr (L := [some (zrv x0), some (zI x1), some (zI x2), some (zI x3), some (zI x4), some (zI x5), some (zI s0), some (zI (1 : Int32)), some (zI (0 : Int32))]) rfl rfl (zmS238_31 (zmS238_66) zN0 _ _ _ _ _ _ _ _ _ _ _ _ H)
-- 238: ReleaseHouseModel.experiment(IIIII)I
def zm238 (x0 : zq) (x1 : Int32) (x2 : Int32) (x3 : Int32) (x4 : Int32) (x5 : Int32) (h : zH) : zRs Int32 :=
  zb (zm139 x1 (0 : Int32) (2 : Int32) h) fun x22 h21 =>
  if x22 = 0 then
    zm238_26 x0 x1 x2 x3 x4 x5 (0 : Int32) h21
  else
    zb (zm229 x2 h21) fun x25 h24 =>
    if x25 = 0 then
      zm238_26 x0 x1 x2 x3 x4 x5 (0 : Int32) h24
    else
      zb (zm139 x3 (0 : Int32) (99 : Int32) h24) fun x28 h27 =>
      if x28 = 0 then
        zm238_26 x0 x1 x2 x3 x4 x5 (0 : Int32) h27
      else
        zb (zm139 x4 x3 (99 : Int32) h27) fun x31 h30 =>
        if x31 = 0 then
          zm238_26 x0 x1 x2 x3 x4 x5 (0 : Int32) h30
        else
          zb (zm139 x5 (2 : Int32) (4 : Int32) h30) fun x34 h33 =>
          if x34 = 0 then
            zm238_26 x0 x1 x2 x3 x4 x5 (0 : Int32) h33
          else
            zm238_26 x0 x1 x2 x3 x4 x5 (1 : Int32) h33
theorem zmS238 {x0 : zq} {x1 : Int32} {x2 : Int32} {x3 : Int32} {x4 : Int32} {x5 : Int32} {h : zH} {r : Int32 ⊕ Nat} {h' : zH} (H : zm238 x0 x1 x2 x3 x4 x5 h = some (r, h')) : zAt 238 0 [some (zrv x0), some (zI x1), some (zI x2), some (zI x3), some (zI x4), some (zI x5), none, none, none] [] h (zoI r) h' := by
  unfold zm238 at H
  refine zA_ldn rfl rfl rfl ?_
  refine zA_push rfl rfl zkk7 ?_
  refine zA_push rfl rfl zkk23 ?_
  rcases zb_e H with ⟨x22, h21, C, H⟩ | ⟨E, h21, C, H⟩
  · refine zA_callV (as := [zI x1, zI (0 : Int32), zI (2 : Int32)]) (st' := []) rfl rfl rfl rfl rfl (zmE139 _ _ _) rfl (zmS139 C) ?_
    rcases zite_e H with ⟨c23, H⟩ | ⟨c23, H⟩
    · refine zA_brT (c := x22 = 0) rfl rfl rfl c23 ?_
      refine zA_push rfl rfl zkk7 ?_
      exact zA_tr (L := [some (zrv x0), some (zI x1), some (zI x2), some (zI x3), some (zI x4), some (zI x5), none, none, none]) rfl rfl (zmS238_26 _ _ _ _ _ _ _ _ _ _ H)
    · refine zA_brF (c := x22 = 0) rfl rfl rfl c23 ?_
      refine zA_ldn rfl rfl rfl ?_
      rcases zb_e H with ⟨x25, h24, C, H⟩ | ⟨E, h24, C, H⟩
      · refine zA_callV (as := [zI x2]) (st' := []) rfl rfl rfl rfl rfl (zmE229 _) rfl (zmS229 C) ?_
        rcases zite_e H with ⟨c26, H⟩ | ⟨c26, H⟩
        · refine zA_brT (c := x25 = 0) rfl rfl rfl c26 ?_
          refine zA_push rfl rfl zkk7 ?_
          exact zA_tr (L := [some (zrv x0), some (zI x1), some (zI x2), some (zI x3), some (zI x4), some (zI x5), none, none, none]) rfl rfl (zmS238_26 _ _ _ _ _ _ _ _ _ _ H)
        · refine zA_brF (c := x25 = 0) rfl rfl rfl c26 ?_
          refine zA_ldn rfl rfl rfl ?_
          refine zA_push rfl rfl zkk7 ?_
          refine zA_push rfl rfl zkk60 ?_
          rcases zb_e H with ⟨x28, h27, C, H⟩ | ⟨E, h27, C, H⟩
          · refine zA_callV (as := [zI x3, zI (0 : Int32), zI (99 : Int32)]) (st' := []) rfl rfl rfl rfl rfl (zmE139 _ _ _) rfl (zmS139 C) ?_
            rcases zite_e H with ⟨c29, H⟩ | ⟨c29, H⟩
            · refine zA_brT (c := x28 = 0) rfl rfl rfl c29 ?_
              refine zA_push rfl rfl zkk7 ?_
              exact zA_tr (L := [some (zrv x0), some (zI x1), some (zI x2), some (zI x3), some (zI x4), some (zI x5), none, none, none]) rfl rfl (zmS238_26 _ _ _ _ _ _ _ _ _ _ H)
            · refine zA_brF (c := x28 = 0) rfl rfl rfl c29 ?_
              refine zA_ld rfl rfl rfl ?_
              refine zA_ldn rfl rfl rfl ?_
              refine zA_push rfl rfl zkk60 ?_
              rcases zb_e H with ⟨x31, h30, C, H⟩ | ⟨E, h30, C, H⟩
              · refine zA_callV (as := [zI x4, zI x3, zI (99 : Int32)]) (st' := []) rfl rfl rfl rfl rfl (zmE139 _ _ _) rfl (zmS139 C) ?_
                rcases zite_e H with ⟨c32, H⟩ | ⟨c32, H⟩
                · refine zA_brT (c := x31 = 0) rfl rfl rfl c32 ?_
                  refine zA_push rfl rfl zkk7 ?_
                  exact zA_tr (L := [some (zrv x0), some (zI x1), some (zI x2), some (zI x3), some (zI x4), some (zI x5), none, none, none]) rfl rfl (zmS238_26 _ _ _ _ _ _ _ _ _ _ H)
                · refine zA_brF (c := x31 = 0) rfl rfl rfl c32 ?_
                  refine zA_ld rfl rfl rfl ?_
                  refine zA_push rfl rfl zkk23 ?_
                  refine zA_push rfl rfl zkk9 ?_
                  rcases zb_e H with ⟨x34, h33, C, H⟩ | ⟨E, h33, C, H⟩
                  · refine zA_callV (as := [zI x5, zI (2 : Int32), zI (4 : Int32)]) (st' := []) rfl rfl rfl rfl rfl (zmE139 _ _ _) rfl (zmS139 C) ?_
                    rcases zite_e H with ⟨c35, H⟩ | ⟨c35, H⟩
                    · refine zA_brT (c := x34 = 0) rfl rfl rfl c35 ?_
                      refine zA_push rfl rfl zkk7 ?_
                      exact zA_tr (L := [some (zrv x0), some (zI x1), some (zI x2), some (zI x3), some (zI x4), some (zI x5), none, none, none]) rfl rfl (zmS238_26 _ _ _ _ _ _ _ _ _ _ H)
                    · refine zA_brF (c := x34 = 0) rfl rfl rfl c35 ?_
                      refine zA_push rfl rfl zkk5 ?_
                      refine zA_go rfl rfl ?_
                      exact zA_tr (L := [some (zrv x0), some (zI x1), some (zI x2), some (zI x3), some (zI x4), some (zI x5), none, none, none]) rfl rfl (zmS238_26 _ _ _ _ _ _ _ _ _ _ H)
                  · cases H
                    exact zA_callX (as := [zI x5, zI (2 : Int32), zI (4 : Int32)]) (st' := []) rfl rfl rfl rfl (zmE139 _ _ _) rfl rfl rfl (zmS139 C)
              · cases H
                exact zA_callX (as := [zI x4, zI x3, zI (99 : Int32)]) (st' := []) rfl rfl rfl rfl (zmE139 _ _ _) rfl rfl rfl (zmS139 C)
          · cases H
            exact zA_callX (as := [zI x3, zI (0 : Int32), zI (99 : Int32)]) (st' := []) rfl rfl rfl rfl (zmE139 _ _ _) rfl rfl rfl (zmS139 C)
      · cases H
        exact zA_callX (as := [zI x2]) (st' := []) rfl rfl rfl rfl (zmE229 _) rfl rfl rfl (zmS229 C)
  · cases H
    exact zA_callX (as := [zI x1, zI (0 : Int32), zI (2 : Int32)]) (st' := []) rfl rfl rfl rfl (zmE139 _ _ _) rfl rfl rfl (zmS139 C)
theorem zmE238 (x0 : zq) (x1 : Int32) (x2 : Int32) (x3 : Int32) (x4 : Int32) (x5 : Int32) : zpad (zPr.2.1 238).1 (zil [zrv x0, zI x1, zI x2, zI x3, zI x4, zI x5]) = [some (zrv x0), some (zI x1), some (zI x2), some (zI x3), some (zI x4), some (zI x5), none, none, none] := by
  simp only [zil_A, zil_I, zil_F, zil_D, zil_N]
  rfl
-- 128: ReleaseHouse.conclude(I)V
def zm128 (x0 : zq) (x1 : Int32) (h : zH) : zRs Unit :=
  zob 11 x0 fun p21 i22 =>
  znn (zr h p21 i22 5) fun p25 i26 =>
  zif ((ztg p25 == 9) = true) <|
  zif (zi h p25 i26 1 = 1) <|
  zb (zm130 x1 (nI (zln h p25 i26)) h) fun _ h30 =>
  znn (zr h30 p21 i22 5) fun p31 i32 =>
  zif ((ztg p31 == 9) = true) <|
  zif (zi h30 p31 i32 1 = 1) <|
  if x1 < 0 ∨ zln h30 p31 i32 ≤ x1.toNatClampNeg ∨ 33 < zln h30 p31 i32 then none else
  zob 1 (zr h30 p31 i32 x1.toNatClampNeg) fun p37 i38 =>
  zlet (zr h30 p31 i32 x1.toNatClampNeg) fun x41 =>
  zob 1 x41 fun p43 i44 =>
  if (zi h30 p43 i44 5) = 0 then
    zlet (zsi h30 p43 i44 5 (1 : Int32)) fun h48 =>
    some (.inl (), h48)
  else
    some (.inr 1, zro h30 1 6)
theorem zmS128 {x0 : zq} {x1 : Int32} {h : zH} {r : Unit ⊕ Nat} {h' : zH} (H : zm128 x0 x1 h = some (r, h')) : zAt 128 0 [some (zrv x0), some (zI x1), none] [] h (zoU r) h' := by
  unfold zm128 at H
  refine zA_ldn rfl rfl rfl ?_
  refine zA_aldn rfl rfl rfl ?_
  obtain ⟨p21, i22, e23, c24, H⟩ := zob_e H
  refine zA_gf3 rfl rfl e23 c24 ?_
  obtain ⟨p25, i26, e27, H⟩ := znn_e H
  obtain ⟨c28, H⟩ := zif_e H
  obtain ⟨c29, H⟩ := zif_e H
  refine zA_l2 rfl rfl rfl e27 c28 c29 ?_
  rcases zb_e H with ⟨u50, h30, C, H⟩ | ⟨E, h30, C, H⟩
  · refine zA_callU (as := [zI x1, zI (nI (zln h p25 i26))]) (st' := []) rfl rfl rfl rfl rfl (zmE130 _ _) rfl (zmS130 C) ?_
    refine zA_aldn rfl rfl rfl ?_
    refine zA_gf3 rfl rfl e23 c24 ?_
    refine zA_ldn rfl rfl rfl ?_
    obtain ⟨p31, i32, e33, H⟩ := znn_e H
    obtain ⟨c34, H⟩ := zif_e H
    obtain ⟨c35, H⟩ := zif_e H
    rcases zite_e H with ⟨_, H⟩ | ⟨c36, H⟩
    · cases H
    refine zA_l3 rfl rfl rfl e33 c34 c35 c36 ?_
    obtain ⟨p37, i38, e39, c40, H⟩ := zob_e H
    refine zA_cast rfl rfl e39 c40 ?_
    obtain ⟨x41, e42, H⟩ := zlet_e H
    refine zA_astn2 rfl rfl e42 (zset1 (L' := [some (zrv x0), some (zI x1), some (zrv x41)]) (zcat_rv _) rfl (zpcV rfl rfl)) ?_
    refine zA_aldn rfl rfl rfl ?_
    obtain ⟨p43, i44, e45, c46, H⟩ := zob_e H
    refine zA_gf0 rfl rfl (Or.inr rfl) e45 c46 ?_
    rcases zite_e H with ⟨c47, H⟩ | ⟨c47, H⟩
    · refine zA_brT (c := (zi h30 p43 i44 5) = 0) rfl rfl rfl c47 ?_
      refine zA_tr (L := [none, none, some (zrv x41)]) rfl rfl ?_
      refine zA_aldn rfl rfl rfl ?_
      refine zA_push rfl rfl zkk5 ?_
      obtain ⟨h48, e49, H⟩ := zlet_e H
      refine zA_pf1 rfl rfl e45 c46 (by decide) e49 ?_
      cases H
      exact zA_ret rfl rfl
    · refine zA_brF (c := (zi h30 p43 i44 5) = 0) rfl rfl rfl c47 ?_
      cases H
      exact zA_thr rfl rfl
  · cases H
    exact zA_callX (as := [zI x1, zI (nI (zln h p25 i26))]) (st' := []) rfl rfl rfl rfl (zmE130 _ _) rfl rfl rfl (zmS130 C)
theorem zmE128 (x0 : zq) (x1 : Int32) : zpad (zPr.2.1 128).1 (zil [zrv x0, zI x1]) = [some (zrv x0), some (zI x1), none] := by
  simp only [zil_A, zil_I, zil_F, zil_D, zil_N]
  rfl
-- 289: ReleaseHouseLaw.conclude(LReleaseHouse;I)I
def zm289 (x0 : zq) (x1 : Int32) (h : zH) : zRs Int32 :=
  zob 11 x0 fun p21 i22 =>
  zbH [(0, 3, 2, 1), (0, 3, 1, 2)] 2 (zm128 x0 x1 h) fun _ h25 =>
  some (.inl (0 : Int32), h25)
theorem zmS289 {x0 : zq} {x1 : Int32} {h : zH} {r : Int32 ⊕ Nat} {h' : zH} (H : zm289 x0 x1 h = some (r, h')) : zAt 289 0 [some (zrv x0), some (zI x1), none] [] h (zoI r) h' := by
  unfold zm289 at H
  refine zA_aldn rfl rfl rfl ?_
  refine zA_ldn rfl rfl rfl ?_
  obtain ⟨p21, i22, e23, c24, H⟩ := zob_e H
  rcases zbH_e H with ⟨u26, h25, C, H⟩ | ⟨E, h25, c27, C, hc, H⟩
  · refine zA_callU (as := [zrv x0, zI x1]) (st' := []) rfl rfl rfl (zrcv_Q e23 c24) rfl (zmE128 _ _) rfl (zmS128 C) ?_
    refine zA_go rfl rfl ?_
    refine zA_tr (L := [none, none, none]) rfl rfl ?_
    refine zA_push rfl rfl zkk7 ?_
    cases H
    exact zA_ret rfl rfl
  · cases H
    exact zA_callH (as := [zrv x0, zI x1]) (st' := []) rfl rfl (zrcv_Q e23 c24) rfl (zmE128 _ _) rfl rfl rfl (List.cons_ne_nil _ _) hc (zmS128 C)
theorem zmE289 (x0 : zq) (x1 : Int32) : zpad (zPr.2.1 289).1 (zil [zrv x0, zI x1]) = [some (zrv x0), some (zI x1), none] := by
  simp only [zil_A, zil_I, zil_F, zil_D, zil_N]
  rfl
def zm239_19 (x0 : zq) (x1 : Int32) (s0 : zq) (s1 : Int32) (h : zH) : zRs Unit :=
  zob 12 s0 fun p21 i22 =>
  zlet (zsi h p21 i22 0 s1) fun h25 =>
  zob 12 x0 fun p27 i28 =>
  if (zi h25 p27 i28 0) = 0 then
    zar 2 (zr h25 p27 i28 77) x1 h25 fun p32 i33 j34 =>
    zlet (zsi h25 p32 i33 j34 (1 : Int32)) fun h39 =>
    some (.inl (), h39)
  else
    some (.inl (), h25)
theorem zmS239_19 : ∀ (x0 : zq) (x1 : Int32) (s0 : zq) (s1 : Int32) (h : zH) (r : Unit ⊕ Nat) (h' : zH), zm239_19 x0 x1 s0 s1 h = some (r, h') → zAt 239 19 [some (zrv x0), some (zI x1)] [zI s1, zrv s0] h (zoU r) h' := by
  intro x0 x1 s0 s1 h r h' H
  unfold zm239_19 at H
  obtain ⟨p21, i22, e23, c24, H⟩ := zob_e H
  obtain ⟨h25, e26, H⟩ := zlet_e H
  refine zA_pf0 rfl rfl e23 c24 e26 ?_
  refine zA_aldn rfl rfl rfl ?_
  obtain ⟨p27, i28, e29, c30, H⟩ := zob_e H
  refine zA_gf0 rfl rfl (Or.inl rfl) e29 c30 ?_
  rcases zite_e H with ⟨c31, H⟩ | ⟨c31, H⟩
  · refine zA_brF' (c := (zi h25 p27 i28 0) = 0) rfl rfl rfl c31 ?_
    refine zA_aldn rfl rfl rfl ?_
    refine zA_gf3 rfl rfl e29 c30 ?_
    refine zA_ldn rfl rfl rfl ?_
    refine zA_push rfl rfl zkk5 ?_
    obtain ⟨p32, i33, j34, e35, c36, c37, e38, H⟩ := zar_e H
    obtain ⟨h39, e40, H⟩ := zlet_e H
    refine zA_bas rfl rfl e35 c36 c37 e38 (by decide) e40 ?_
    refine zA_tr (L := [none, none]) rfl rfl ?_
    cases H
    exact zA_ret rfl rfl
  · refine zA_brT' (c := (zi h25 p27 i28 0) = 0) rfl rfl rfl c31 ?_
    refine zA_tr (L := [none, none]) rfl rfl ?_
    cases H
    exact zA_ret rfl rfl
-- 239: ReleaseHouseModel.conclude(I)V
def zm239 (x0 : zq) (x1 : Int32) (h : zH) : zRs Unit :=
  zob 12 x0 fun p21 i22 =>
  zb (zm139 x1 (0 : Int32) ((zi h p21 i22 71) - (1 : Int32)) h) fun x26 h25 =>
  if x26 = 0 then
    zm239_19 x0 x1 x0 (1 : Int32) h25
  else
    zar 2 (zr h25 p21 i22 77) x1 h25 fun p28 i29 j30 =>
    if (zi h25 p28 i29 j30) = 0 then
      zm239_19 x0 x1 x0 (0 : Int32) h25
    else
      zm239_19 x0 x1 x0 (2 : Int32) h25
theorem zmS239 {x0 : zq} {x1 : Int32} {h : zH} {r : Unit ⊕ Nat} {h' : zH} (H : zm239 x0 x1 h = some (r, h')) : zAt 239 0 [some (zrv x0), some (zI x1)] [] h (zoU r) h' := by
  unfold zm239 at H
  refine zA_aldn rfl rfl rfl ?_
  refine zA_ldn rfl rfl rfl ?_
  refine zA_push rfl rfl zkk7 ?_
  refine zA_aldn rfl rfl rfl ?_
  obtain ⟨p21, i22, e23, c24, H⟩ := zob_e H
  refine zA_gf0 rfl rfl (Or.inl rfl) e23 c24 ?_
  refine zA_push rfl rfl zkk5 ?_
  refine zA_st (st' := [zI ((zi h p21 i22 71) - (1 : Int32)), zI (0 : Int32), zI x1, zrv x0]) rfl rfl rfl rfl ?_
  rcases zb_e H with ⟨x26, h25, C, H⟩ | ⟨E, h25, C, H⟩
  · refine zA_callV (as := [zI x1, zI (0 : Int32), zI ((zi h p21 i22 71) - (1 : Int32))]) (st' := [zrv x0]) rfl rfl rfl rfl rfl (zmE139 _ _ _) rfl (zmS139 C) ?_
    rcases zite_e H with ⟨c27, H⟩ | ⟨c27, H⟩
    · refine zA_brF' (c := x26 = 0) rfl rfl rfl c27 ?_
      refine zA_push rfl rfl zkk5 ?_
      refine zA_go rfl rfl ?_
      exact zA_tr (L := [some (zrv x0), some (zI x1)]) rfl rfl (zmS239_19 _ _ _ _ _ _ _ H)
    · refine zA_brT' (c := x26 = 0) rfl rfl rfl c27 ?_
      refine zA_aldn rfl rfl rfl ?_
      refine zA_gf3 rfl rfl e23 c24 ?_
      refine zA_ldn rfl rfl rfl ?_
      obtain ⟨p28, i29, j30, e31, c32, c33, e34, H⟩ := zar_e H
      refine zA_bal rfl rfl e31 c32 c33 e34 ?_
      rcases zite_e H with ⟨c35, H⟩ | ⟨c35, H⟩
      · refine zA_brT (c := (zi h25 p28 i29 j30) = 0) rfl rfl rfl c35 ?_
        refine zA_push rfl rfl zkk7 ?_
        exact zA_tr (L := [some (zrv x0), some (zI x1)]) rfl rfl (zmS239_19 _ _ _ _ _ _ _ H)
      · refine zA_brF (c := (zi h25 p28 i29 j30) = 0) rfl rfl rfl c35 ?_
        refine zA_push rfl rfl zkk23 ?_
        refine zA_go rfl rfl ?_
        exact zA_tr (L := [some (zrv x0), some (zI x1)]) rfl rfl (zmS239_19 _ _ _ _ _ _ _ H)
  · cases H
    exact zA_callX (as := [zI x1, zI (0 : Int32), zI ((zi h p21 i22 71) - (1 : Int32))]) (st' := [zrv x0]) rfl rfl rfl rfl (zmE139 _ _ _) rfl rfl rfl (zmS139 C)
theorem zmE239 (x0 : zq) (x1 : Int32) : zpad (zPr.2.1 239).1 (zil [zrv x0, zI x1]) = [some (zrv x0), some (zI x1)] := by
  simp only [zil_A, zil_I, zil_F, zil_D, zil_N]
  rfl
-- 3: ReleaseHouse$Experiment.armOf(I)I
def zm3 (x0 : zq) (x1 : Int32) (h : zH) : zRs Int32 :=
  zob 1 x0 fun p21 i22 =>
  if (zi h p21 i22 4) ≤ 0 then
    some (.inl (-1 : Int32), h)
  else
    zif ((zi h p21 i22 4) ≠ 0) <|
    some (.inl ((x1 - (zi h p21 i22 2)) - (x1 - (zi h p21 i22 2)) / (zi h p21 i22 4) * (zi h p21 i22 4)), h)
theorem zmS3 {x0 : zq} {x1 : Int32} {h : zH} {r : Int32 ⊕ Nat} {h' : zH} (H : zm3 x0 x1 h = some (r, h')) : zAt 3 0 [some (zrv x0), some (zI x1)] [] h (zoI r) h' := by
  unfold zm3 at H
  refine zA_aldn rfl rfl rfl ?_
  obtain ⟨p21, i22, e23, c24, H⟩ := zob_e H
  refine zA_gf0 rfl rfl (Or.inl rfl) e23 c24 ?_
  rcases zite_e H with ⟨c25, H⟩ | ⟨c25, H⟩
  · refine zA_brT (c := (zi h p21 i22 4) ≤ 0) rfl rfl rfl c25 ?_
    refine zA_tr (L := [none, none]) rfl rfl ?_
    refine zA_push rfl rfl zkk6 ?_
    cases H
    exact zA_ret rfl rfl
  · refine zA_brF (c := (zi h p21 i22 4) ≤ 0) rfl rfl rfl c25 ?_
    refine zA_ldn rfl rfl rfl ?_
    refine zA_aldn rfl rfl rfl ?_
    refine zA_gf0 rfl rfl (Or.inl rfl) e23 c24 ?_
    refine zA_st (st' := [zI (x1 - (zi h p21 i22 2))]) rfl rfl rfl rfl ?_
    refine zA_aldn rfl rfl rfl ?_
    refine zA_gf0 rfl rfl (Or.inl rfl) e23 c24 ?_
    obtain ⟨c26, H⟩ := zif_e H
    refine zA_rem rfl rfl c26 ?_
    refine zA_go rfl rfl ?_
    refine zA_tr (L := [none, none]) rfl rfl ?_
    cases H
    exact zA_ret rfl rfl
theorem zmE3 (x0 : zq) (x1 : Int32) : zpad (zPr.2.1 3).1 (zil [zrv x0, zI x1]) = [some (zrv x0), some (zI x1)] := by
  simp only [zil_A, zil_I, zil_F, zil_D, zil_N]
  rfl
-- 129: ReleaseHouse.arm(II)I
def zm129 (x0 : zq) (x1 : Int32) (x2 : Int32) (h : zH) : zRs Int32 :=
  zob 11 x0 fun p21 i22 =>
  znn (zr h p21 i22 5) fun p25 i26 =>
  zif ((ztg p25 == 9) = true) <|
  zif (zi h p25 i26 1 = 1) <|
  zb (zm130 x1 (nI (zln h p25 i26)) h) fun _ h30 =>
  zb (zm131 x2 (0 : Int32) (199 : Int32) h30) fun _ h31 =>
  znn (zr h31 p21 i22 5) fun p32 i33 =>
  zif ((ztg p32 == 9) = true) <|
  zif (zi h31 p32 i33 1 = 1) <|
  if x1 < 0 ∨ zln h31 p32 i33 ≤ x1.toNatClampNeg ∨ 33 < zln h31 p32 i33 then none else
  zob 1 (zr h31 p32 i33 x1.toNatClampNeg) fun p38 i39 =>
  zlet (zr h31 p32 i33 x1.toNatClampNeg) fun x42 =>
  zob 1 x42 fun p44 i45 =>
  zlet ((((61 : Int32) * x2) + ((17 : Int32) * (zi h31 p44 i45 0))) - (((61 : Int32) * x2) + ((17 : Int32) * (zi h31 p44 i45 0))) / (100 : Int32) * (100 : Int32)) fun x49 =>
  if (zi h31 p44 i45 5) = 0 then
    if x49 < (zi h31 p44 i45 2) then
      some (.inl (-1 : Int32), h31)
    else
      if (zi h31 p44 i45 3) < x49 then
        some (.inl (-1 : Int32), h31)
      else
        zb (zm121 x0 (zi h31 p44 i45 1) x2 h31) fun x55 h54 =>
        if x55 = 0 then
          some (.inl (-1 : Int32), h54)
        else
          zb (zm3 x42 x49 h54) fun x58 h57 =>
          some (.inl x58, h57)
  else
    some (.inl (-1 : Int32), h31)
theorem zmS129 {x0 : zq} {x1 : Int32} {x2 : Int32} {h : zH} {r : Int32 ⊕ Nat} {h' : zH} (H : zm129 x0 x1 x2 h = some (r, h')) : zAt 129 0 [some (zrv x0), some (zI x1), some (zI x2), none, none] [] h (zoI r) h' := by
  unfold zm129 at H
  refine zA_ldn rfl rfl rfl ?_
  refine zA_aldn rfl rfl rfl ?_
  obtain ⟨p21, i22, e23, c24, H⟩ := zob_e H
  refine zA_gf3 rfl rfl e23 c24 ?_
  obtain ⟨p25, i26, e27, H⟩ := znn_e H
  obtain ⟨c28, H⟩ := zif_e H
  obtain ⟨c29, H⟩ := zif_e H
  refine zA_l2 rfl rfl rfl e27 c28 c29 ?_
  rcases zb_e H with ⟨u60, h30, C, H⟩ | ⟨E, h30, C, H⟩
  · refine zA_callU (as := [zI x1, zI (nI (zln h p25 i26))]) (st' := []) rfl rfl rfl rfl rfl (zmE130 _ _) rfl (zmS130 C) ?_
    refine zA_ldn rfl rfl rfl ?_
    refine zA_push rfl rfl zkk7 ?_
    refine zA_push rfl rfl zkk48 ?_
    rcases zb_e H with ⟨u59, h31, C, H⟩ | ⟨E, h31, C, H⟩
    · refine zA_callU (as := [zI x2, zI (0 : Int32), zI (199 : Int32)]) (st' := []) rfl rfl rfl rfl rfl (zmE131 _ _ _) rfl (zmS131 C) ?_
      refine zA_aldn rfl rfl rfl ?_
      refine zA_gf3 rfl rfl e23 c24 ?_
      refine zA_ldn rfl rfl rfl ?_
      obtain ⟨p32, i33, e34, H⟩ := znn_e H
      obtain ⟨c35, H⟩ := zif_e H
      obtain ⟨c36, H⟩ := zif_e H
      rcases zite_e H with ⟨_, H⟩ | ⟨c37, H⟩
      · cases H
      refine zA_l3 rfl rfl rfl e34 c35 c36 c37 ?_
      obtain ⟨p38, i39, e40, c41, H⟩ := zob_e H
      refine zA_cast rfl rfl e40 c41 ?_
      obtain ⟨x42, e43, H⟩ := zlet_e H
      refine zA_astn2 rfl rfl e43 (zset1 (L' := [some (zrv x0), some (zI x1), some (zI x2), some (zrv x42), none]) (zcat_rv _) rfl (zpcV rfl rfl)) ?_
      refine zA_push rfl rfl zkk61 ?_
      refine zA_ldn rfl rfl rfl ?_
      refine zA_st (st' := [zI ((61 : Int32) * x2)]) rfl rfl rfl rfl ?_
      refine zA_push rfl rfl zkk1 ?_
      refine zA_aldn rfl rfl rfl ?_
      obtain ⟨p44, i45, e46, c47, H⟩ := zob_e H
      refine zA_gf0 rfl rfl (Or.inl rfl) e46 c47 ?_
      refine zA_st (st' := [zI ((17 : Int32) * (zi h31 p44 i45 0)), zI ((61 : Int32) * x2)]) rfl rfl rfl rfl ?_
      refine zA_st (st' := [zI (((61 : Int32) * x2) + ((17 : Int32) * (zi h31 p44 i45 0)))]) rfl rfl rfl rfl ?_
      refine zA_push rfl rfl zkk29 ?_
      refine zA_rem rfl rfl (by decide) ?_
      obtain ⟨x49, e50, H⟩ := zlet_e H
      refine zA_ist2 rfl rfl e50 (zset1 (L' := [some (zrv x0), some (zI x1), some (zI x2), some (zrv x42), some (zI x49)]) rfl rfl (zpcV rfl (zcat_rv _))) ?_
      refine zA_aldn rfl rfl rfl ?_
      refine zA_gf0 rfl rfl (Or.inr rfl) e46 c47 ?_
      rcases zite_e H with ⟨c51, H⟩ | ⟨c51, H⟩
      · refine zA_brF' (c := (zi h31 p44 i45 5) = 0) rfl rfl rfl c51 ?_
        refine zA_ld rfl rfl rfl ?_
        refine zA_aldn rfl rfl rfl ?_
        refine zA_gf0 rfl rfl (Or.inl rfl) e46 c47 ?_
        rcases zite_e H with ⟨c52, H⟩ | ⟨c52, H⟩
        · refine zA_brT (c := x49 < (zi h31 p44 i45 2)) rfl rfl rfl c52 ?_
          refine zA_tr (L := [none, none, none, none, none]) rfl rfl ?_
          refine zA_push rfl rfl zkk6 ?_
          cases H
          exact zA_ret rfl rfl
        · refine zA_brF (c := x49 < (zi h31 p44 i45 2)) rfl rfl rfl c52 ?_
          refine zA_ld rfl rfl rfl ?_
          refine zA_aldn rfl rfl rfl ?_
          refine zA_gf0 rfl rfl (Or.inl rfl) e46 c47 ?_
          rcases zite_e H with ⟨c53, H⟩ | ⟨c53, H⟩
          · refine zA_brT (c := (zi h31 p44 i45 3) < x49) rfl rfl rfl c53 ?_
            refine zA_tr (L := [none, none, none, none, none]) rfl rfl ?_
            refine zA_push rfl rfl zkk6 ?_
            cases H
            exact zA_ret rfl rfl
          · refine zA_brF (c := (zi h31 p44 i45 3) < x49) rfl rfl rfl c53 ?_
            refine zA_aldn rfl rfl rfl ?_
            refine zA_aldn rfl rfl rfl ?_
            refine zA_gf0 rfl rfl (Or.inl rfl) e46 c47 ?_
            refine zA_ldn rfl rfl rfl ?_
            rcases zb_e H with ⟨x55, h54, C, H⟩ | ⟨E, h54, C, H⟩
            · refine zA_callV (as := [zrv x0, zI (zi h31 p44 i45 1), zI x2]) (st' := []) rfl rfl rfl (zrcv_Q e23 c24) rfl (zmE121 _ _ _) rfl (zmS121 C) ?_
              rcases zite_e H with ⟨c56, H⟩ | ⟨c56, H⟩
              · refine zA_brF' (c := x55 = 0) rfl rfl rfl c56 ?_
                refine zA_tr (L := [none, none, none, none, none]) rfl rfl ?_
                refine zA_push rfl rfl zkk6 ?_
                cases H
                exact zA_ret rfl rfl
              · refine zA_brT' (c := x55 = 0) rfl rfl rfl c56 ?_
                refine zA_tr (L := [none, none, none, some (zrv x42), some (zI x49)]) rfl rfl ?_
                refine zA_aldn rfl rfl rfl ?_
                refine zA_ld rfl rfl rfl ?_
                rcases zb_e H with ⟨x58, h57, C, H⟩ | ⟨E, h57, C, H⟩
                · refine zA_callV (as := [zrv x42, zI x49]) (st' := []) rfl rfl rfl (zrcv_Q e46 c47) rfl (zmE3 _ _) rfl (zmS3 C) ?_
                  cases H
                  exact zA_ret rfl rfl
                · cases H
                  exact zA_callX (as := [zrv x42, zI x49]) (st' := []) rfl rfl (zrcv_Q e46 c47) rfl (zmE3 _ _) rfl rfl rfl (zmS3 C)
            · cases H
              exact zA_callX (as := [zrv x0, zI (zi h31 p44 i45 1), zI x2]) (st' := []) rfl rfl (zrcv_Q e23 c24) rfl (zmE121 _ _ _) rfl rfl rfl (zmS121 C)
      · refine zA_brT' (c := (zi h31 p44 i45 5) = 0) rfl rfl rfl c51 ?_
        refine zA_tr (L := [none, none, none, none, none]) rfl rfl ?_
        refine zA_push rfl rfl zkk6 ?_
        cases H
        exact zA_ret rfl rfl
    · cases H
      exact zA_callX (as := [zI x2, zI (0 : Int32), zI (199 : Int32)]) (st' := []) rfl rfl rfl rfl (zmE131 _ _ _) rfl rfl rfl (zmS131 C)
  · cases H
    exact zA_callX (as := [zI x1, zI (nI (zln h p25 i26))]) (st' := []) rfl rfl rfl rfl (zmE130 _ _) rfl rfl rfl (zmS130 C)
theorem zmE129 (x0 : zq) (x1 : Int32) (x2 : Int32) : zpad (zPr.2.1 129).1 (zil [zrv x0, zI x1, zI x2]) = [some (zrv x0), some (zI x1), some (zI x2), none, none] := by
  simp only [zil_A, zil_I, zil_F, zil_D, zil_N]
  rfl
-- 290: ReleaseHouseLaw.arm(LReleaseHouse;II[J)I
def zm290 (x0 : zq) (x1 : Int32) (x2 : Int32) (x3 : zq) (h : zH) : zRs Int32 :=
  zob 11 x0 fun p21 i22 =>
  zbH [(0, 8, 2, 1), (0, 8, 0, 2)] 5 (zm129 x0 x1 x2 h) fun x26 h25 =>
  zar 3 x3 (0 : Int32) h25 fun p27 i28 j29 =>
  zlet (zsl h25 p27 i28 j29 (x26.toInt64)) fun h34 =>
  some (.inl (0 : Int32), h34)
theorem zmS290 {x0 : zq} {x1 : Int32} {x2 : Int32} {x3 : zq} {h : zH} {r : Int32 ⊕ Nat} {h' : zH} (H : zm290 x0 x1 x2 x3 h = some (r, h')) : zAt 290 0 [some (zrv x0), some (zI x1), some (zI x2), some (zrv x3), none] [] h (zoI r) h' := by
  unfold zm290 at H
  refine zA_aldn rfl rfl rfl ?_
  refine zA_push rfl rfl zkk7 ?_
  refine zA_aldn rfl rfl rfl ?_
  refine zA_ldn rfl rfl rfl ?_
  refine zA_ldn rfl rfl rfl ?_
  obtain ⟨p21, i22, e23, c24, H⟩ := zob_e H
  rcases zbH_e H with ⟨x26, h25, C, H⟩ | ⟨E, h25, c36, C, hc, H⟩
  · refine zA_callV (as := [zrv x0, zI x1, zI x2]) (st' := [zI (0 : Int32), zrv x3]) rfl rfl rfl (zrcv_Q e23 c24) rfl (zmE129 _ _ _) rfl (zmS129 C) ?_
    refine zA_st (st' := [zJ (x26.toInt64), zI (0 : Int32), zrv x3]) rfl rfl rfl rfl ?_
    obtain ⟨p27, i28, j29, e30, c31, c32, e33, H⟩ := zar_e H
    obtain ⟨h34, e35, H⟩ := zlet_e H
    refine zA_las rfl rfl e30 c31 c32 e33 e35 ?_
    refine zA_go rfl rfl ?_
    refine zA_tr (L := [none, none, none, none, none]) rfl rfl ?_
    refine zA_push rfl rfl zkk7 ?_
    cases H
    exact zA_ret rfl rfl
  · cases H
    exact zA_callH (as := [zrv x0, zI x1, zI x2]) (st' := [zI (0 : Int32), zrv x3]) rfl rfl (zrcv_Q e23 c24) rfl (zmE129 _ _ _) rfl rfl rfl (List.cons_ne_nil _ _) hc (zmS129 C)
theorem zmE290 (x0 : zq) (x1 : Int32) (x2 : Int32) (x3 : zq) : zpad (zPr.2.1 290).1 (zil [zrv x0, zI x1, zI x2, zrv x3]) = [some (zrv x0), some (zI x1), some (zI x2), some (zrv x3), none] := by
  simp only [zil_A, zil_I, zil_F, zil_D, zil_N]
  rfl
def zm240_65 (x0 : zq) (x1 : Int32) (x3 : Int32) (s0 : Int32) (h : zH) : zRs Int32 :=
  if s0 = 0 then
    some (.inl (-1 : Int32), h)
  else
    zob 12 x0 fun p22 i23 =>
    zai (zr h p22 i23 74) x1 h fun p26 i27 j28 =>
    zai (zr h p22 i23 76) x1 h fun p33 i34 j35 =>
    zif ((zi h p33 i34 j35) ≠ 0) <|
    some (.inl ((x3 - (zi h p26 i27 j28)) - (x3 - (zi h p26 i27 j28)) / (zi h p33 i34 j35) * (zi h p33 i34 j35)), h)
theorem zmS240_65 : ∀ (x0 : zq) (x1 : Int32) (x3 : Int32) (s0 : Int32) (h : zH) (r : Int32 ⊕ Nat) (h' : zH), zm240_65 x0 x1 x3 s0 h = some (r, h') → zAt 240 65 [some (zrv x0), some (zI x1), none, some (zI x3), none] [zI s0] h (zoI r) h' := by
  intro x0 x1 x3 s0 h r h' H
  unfold zm240_65 at H
  refine zA_ist2 rfl rfl rfl (zset1 (L' := [some (zrv x0), some (zI x1), none, some (zI x3), some (zI s0)]) rfl rfl (zpcV rfl rfl)) ?_
  refine zA_ld rfl rfl rfl ?_
  rcases zite_e H with ⟨c21, H⟩ | ⟨c21, H⟩
  · refine zA_brT (c := s0 = 0) rfl rfl rfl c21 ?_
    refine zA_tr (L := [none, none, none, none, none]) rfl rfl ?_
    refine zA_push rfl rfl zkk6 ?_
    cases H
    exact zA_ret rfl rfl
  · refine zA_brF (c := s0 = 0) rfl rfl rfl c21 ?_
    refine zA_ldn rfl rfl rfl ?_
    refine zA_aldn rfl rfl rfl ?_
    obtain ⟨p22, i23, e24, c25, H⟩ := zob_e H
    refine zA_gf3 rfl rfl e24 c25 ?_
    refine zA_ldn rfl rfl rfl ?_
    obtain ⟨p26, i27, j28, e29, c30, c31, e32, H⟩ := zai_e H
    refine zA_ial rfl rfl e29 c30 c31 e32 ?_
    refine zA_st (st' := [zI (x3 - (zi h p26 i27 j28))]) rfl rfl rfl rfl ?_
    refine zA_aldn rfl rfl rfl ?_
    refine zA_gf3 rfl rfl e24 c25 ?_
    refine zA_ldn rfl rfl rfl ?_
    obtain ⟨p33, i34, j35, e36, c37, c38, e39, H⟩ := zai_e H
    refine zA_ial rfl rfl e36 c37 c38 e39 ?_
    obtain ⟨c40, H⟩ := zif_e H
    refine zA_rem rfl rfl c40 ?_
    refine zA_go rfl rfl ?_
    refine zA_tr (L := [none, none, none, none, none]) rfl rfl ?_
    cases H
    exact zA_ret rfl rfl
def zm240_19 (x0 : zq) (x1 : Int32) (x2 : Int32) (s0 : zq) (s1 : Int32) (h : zH) : zRs Int32 :=
  zob 12 s0 fun p21 i22 =>
  zlet (zsi h p21 i22 0 s1) fun h25 =>
  zob 12 x0 fun p27 i28 =>
  if (zi h25 p27 i28 0) ≤ 0 then
    zai (zr h25 p27 i28 72) x1 h25 fun p32 i33 j34 =>
    zlet ((((61 : Int32) * x2) + ((17 : Int32) * (zi h25 p32 i33 j34))) - (((61 : Int32) * x2) + ((17 : Int32) * (zi h25 p32 i33 j34))) / (100 : Int32) * (100 : Int32)) fun x40 =>
    zar 2 (zr h25 p27 i28 77) x1 h25 fun p42 i43 j44 =>
    if (zi h25 p42 i43 j44) = 0 then
      zai (zr h25 p27 i28 74) x1 h25 fun p50 i51 j52 =>
      zai (zr h25 p27 i28 75) x1 h25 fun p57 i58 j59 =>
      zb (zm139 x40 (zi h25 p50 i51 j52) (zi h25 p57 i58 j59) h25) fun x65 h64 =>
      if x65 = 0 then
        zm240_65 x0 x1 x40 (0 : Int32) h64
      else
        zai (zr h64 p27 i28 73) x1 h64 fun p67 i68 j69 =>
        zb (zm235 x0 (zi h64 p67 i68 j69) x2 h64) fun x75 h74 =>
        if x75 = 0 then
          zm240_65 x0 x1 x40 (0 : Int32) h74
        else
          zm240_65 x0 x1 x40 (1 : Int32) h74
    else
      zm240_65 x0 x1 x40 (0 : Int32) h25
  else
    some (.inl (0 : Int32), h25)
theorem zmS240_19 : ∀ (x0 : zq) (x1 : Int32) (x2 : Int32) (s0 : zq) (s1 : Int32) (h : zH) (r : Int32 ⊕ Nat) (h' : zH), zm240_19 x0 x1 x2 s0 s1 h = some (r, h') → zAt 240 19 [some (zrv x0), some (zI x1), some (zI x2), none, none] [zI s1, zrv s0] h (zoI r) h' := by
  intro x0 x1 x2 s0 s1 h r h' H
  unfold zm240_19 at H
  obtain ⟨p21, i22, e23, c24, H⟩ := zob_e H
  obtain ⟨h25, e26, H⟩ := zlet_e H
  refine zA_pf0 rfl rfl e23 c24 e26 ?_
  refine zA_aldn rfl rfl rfl ?_
  obtain ⟨p27, i28, e29, c30, H⟩ := zob_e H
  refine zA_gf0 rfl rfl (Or.inl rfl) e29 c30 ?_
  rcases zite_e H with ⟨c31, H⟩ | ⟨c31, H⟩
  · refine zA_brT (c := (zi h25 p27 i28 0) ≤ 0) rfl rfl rfl c31 ?_
    refine zA_push rfl rfl zkk61 ?_
    refine zA_ldn rfl rfl rfl ?_
    refine zA_st (st' := [zI ((61 : Int32) * x2)]) rfl rfl rfl rfl ?_
    refine zA_push rfl rfl zkk1 ?_
    refine zA_aldn rfl rfl rfl ?_
    refine zA_gf3 rfl rfl e29 c30 ?_
    refine zA_ldn rfl rfl rfl ?_
    obtain ⟨p32, i33, j34, e35, c36, c37, e38, H⟩ := zai_e H
    refine zA_ial rfl rfl e35 c36 c37 e38 ?_
    refine zA_st (st' := [zI ((17 : Int32) * (zi h25 p32 i33 j34)), zI ((61 : Int32) * x2)]) rfl rfl rfl rfl ?_
    refine zA_st (st' := [zI (((61 : Int32) * x2) + ((17 : Int32) * (zi h25 p32 i33 j34)))]) rfl rfl rfl rfl ?_
    refine zA_push rfl rfl zkk29 ?_
    refine zA_rem rfl rfl (by decide) ?_
    obtain ⟨x40, e41, H⟩ := zlet_e H
    refine zA_istn2 rfl rfl e41 (zset1 (L' := [some (zrv x0), some (zI x1), some (zI x2), some (zI x40), none]) rfl rfl (zpcV rfl rfl)) ?_
    refine zA_aldn rfl rfl rfl ?_
    refine zA_gf3 rfl rfl e29 c30 ?_
    refine zA_ldn rfl rfl rfl ?_
    obtain ⟨p42, i43, j44, e45, c46, c47, e48, H⟩ := zar_e H
    refine zA_bal rfl rfl e45 c46 c47 e48 ?_
    rcases zite_e H with ⟨c49, H⟩ | ⟨c49, H⟩
    · refine zA_brF' (c := (zi h25 p42 i43 j44) = 0) rfl rfl rfl c49 ?_
      refine zA_ldn rfl rfl rfl ?_
      refine zA_aldn rfl rfl rfl ?_
      refine zA_gf3 rfl rfl e29 c30 ?_
      refine zA_ldn rfl rfl rfl ?_
      obtain ⟨p50, i51, j52, e53, c54, c55, e56, H⟩ := zai_e H
      refine zA_ial rfl rfl e53 c54 c55 e56 ?_
      refine zA_aldn rfl rfl rfl ?_
      refine zA_gf3 rfl rfl e29 c30 ?_
      refine zA_ldn rfl rfl rfl ?_
      obtain ⟨p57, i58, j59, e60, c61, c62, e63, H⟩ := zai_e H
      refine zA_ial rfl rfl e60 c61 c62 e63 ?_
      rcases zb_e H with ⟨x65, h64, C, H⟩ | ⟨E, h64, C, H⟩
      · refine zA_callV (as := [zI x40, zI (zi h25 p50 i51 j52), zI (zi h25 p57 i58 j59)]) (st' := []) rfl rfl rfl rfl rfl (zmE139 _ _ _) rfl (zmS139 C) ?_
        rcases zite_e H with ⟨c66, H⟩ | ⟨c66, H⟩
        · refine zA_brT (c := x65 = 0) rfl rfl rfl c66 ?_
          refine zA_tr (L := [some (zrv x0), some (zI x1), none, some (zI x40), none]) rfl rfl ?_
          refine zA_push rfl rfl zkk7 ?_
          exact zA_tr (L := [some (zrv x0), some (zI x1), none, some (zI x40), none]) rfl rfl (zmS240_65 _ _ _ _ _ _ _ H)
        · refine zA_brF (c := x65 = 0) rfl rfl rfl c66 ?_
          refine zA_aldn rfl rfl rfl ?_
          refine zA_aldn rfl rfl rfl ?_
          refine zA_gf3 rfl rfl e29 c30 ?_
          refine zA_ldn rfl rfl rfl ?_
          obtain ⟨p67, i68, j69, e70, c71, c72, e73, H⟩ := zai_e H
          refine zA_ial rfl rfl e70 c71 c72 e73 ?_
          refine zA_ldn rfl rfl rfl ?_
          rcases zb_e H with ⟨x75, h74, C, H⟩ | ⟨E, h74, C, H⟩
          · refine zA_callV (as := [zrv x0, zI (zi h64 p67 i68 j69), zI x2]) (st' := []) rfl rfl rfl (zrcv_Q e29 c30) rfl (zmE235 _ _ _) rfl (zmS235 C) ?_
            rcases zite_e H with ⟨c76, H⟩ | ⟨c76, H⟩
            · refine zA_brT (c := x75 = 0) rfl rfl rfl c76 ?_
              refine zA_tr (L := [some (zrv x0), some (zI x1), none, some (zI x40), none]) rfl rfl ?_
              refine zA_push rfl rfl zkk7 ?_
              exact zA_tr (L := [some (zrv x0), some (zI x1), none, some (zI x40), none]) rfl rfl (zmS240_65 _ _ _ _ _ _ _ H)
            · refine zA_brF (c := x75 = 0) rfl rfl rfl c76 ?_
              refine zA_push rfl rfl zkk5 ?_
              refine zA_go rfl rfl ?_
              exact zA_tr (L := [some (zrv x0), some (zI x1), none, some (zI x40), none]) rfl rfl (zmS240_65 _ _ _ _ _ _ _ H)
          · cases H
            exact zA_callX (as := [zrv x0, zI (zi h64 p67 i68 j69), zI x2]) (st' := []) rfl rfl (zrcv_Q e29 c30) rfl (zmE235 _ _ _) rfl rfl rfl (zmS235 C)
      · cases H
        exact zA_callX (as := [zI x40, zI (zi h25 p50 i51 j52), zI (zi h25 p57 i58 j59)]) (st' := []) rfl rfl rfl rfl (zmE139 _ _ _) rfl rfl rfl (zmS139 C)
    · refine zA_brT' (c := (zi h25 p42 i43 j44) = 0) rfl rfl rfl c49 ?_
      refine zA_tr (L := [some (zrv x0), some (zI x1), none, some (zI x40), none]) rfl rfl ?_
      refine zA_push rfl rfl zkk7 ?_
      exact zA_tr (L := [some (zrv x0), some (zI x1), none, some (zI x40), none]) rfl rfl (zmS240_65 _ _ _ _ _ _ _ H)
  · refine zA_brF (c := (zi h25 p27 i28 0) ≤ 0) rfl rfl rfl c31 ?_
    refine zA_push rfl rfl zkk7 ?_
    cases H
    exact zA_ret rfl rfl
-- 240: ReleaseHouseModel.arm(II)I
def zm240 (x0 : zq) (x1 : Int32) (x2 : Int32) (h : zH) : zRs Int32 :=
  zob 12 x0 fun p21 i22 =>
  zb (zm139 x1 (0 : Int32) ((zi h p21 i22 71) - (1 : Int32)) h) fun x26 h25 =>
  if x26 = 0 then
    zm240_19 x0 x1 x2 x0 (1 : Int32) h25
  else
    zb (zm139 x2 (0 : Int32) (199 : Int32) h25) fun x29 h28 =>
    if x29 = 0 then
      zm240_19 x0 x1 x2 x0 (2 : Int32) h28
    else
      zm240_19 x0 x1 x2 x0 (0 : Int32) h28
theorem zmS240 {x0 : zq} {x1 : Int32} {x2 : Int32} {h : zH} {r : Int32 ⊕ Nat} {h' : zH} (H : zm240 x0 x1 x2 h = some (r, h')) : zAt 240 0 [some (zrv x0), some (zI x1), some (zI x2), none, none] [] h (zoI r) h' := by
  unfold zm240 at H
  refine zA_aldn rfl rfl rfl ?_
  refine zA_ldn rfl rfl rfl ?_
  refine zA_push rfl rfl zkk7 ?_
  refine zA_aldn rfl rfl rfl ?_
  obtain ⟨p21, i22, e23, c24, H⟩ := zob_e H
  refine zA_gf0 rfl rfl (Or.inl rfl) e23 c24 ?_
  refine zA_push rfl rfl zkk5 ?_
  refine zA_st (st' := [zI ((zi h p21 i22 71) - (1 : Int32)), zI (0 : Int32), zI x1, zrv x0]) rfl rfl rfl rfl ?_
  rcases zb_e H with ⟨x26, h25, C, H⟩ | ⟨E, h25, C, H⟩
  · refine zA_callV (as := [zI x1, zI (0 : Int32), zI ((zi h p21 i22 71) - (1 : Int32))]) (st' := [zrv x0]) rfl rfl rfl rfl rfl (zmE139 _ _ _) rfl (zmS139 C) ?_
    rcases zite_e H with ⟨c27, H⟩ | ⟨c27, H⟩
    · refine zA_brF' (c := x26 = 0) rfl rfl rfl c27 ?_
      refine zA_push rfl rfl zkk5 ?_
      refine zA_go rfl rfl ?_
      exact zA_tr (L := [some (zrv x0), some (zI x1), some (zI x2), none, none]) rfl rfl (zmS240_19 _ _ _ _ _ _ _ _ H)
    · refine zA_brT' (c := x26 = 0) rfl rfl rfl c27 ?_
      refine zA_ldn rfl rfl rfl ?_
      refine zA_push rfl rfl zkk7 ?_
      refine zA_push rfl rfl zkk48 ?_
      rcases zb_e H with ⟨x29, h28, C, H⟩ | ⟨E, h28, C, H⟩
      · refine zA_callV (as := [zI x2, zI (0 : Int32), zI (199 : Int32)]) (st' := [zrv x0]) rfl rfl rfl rfl rfl (zmE139 _ _ _) rfl (zmS139 C) ?_
        rcases zite_e H with ⟨c30, H⟩ | ⟨c30, H⟩
        · refine zA_brT (c := x29 = 0) rfl rfl rfl c30 ?_
          refine zA_push rfl rfl zkk23 ?_
          exact zA_tr (L := [some (zrv x0), some (zI x1), some (zI x2), none, none]) rfl rfl (zmS240_19 _ _ _ _ _ _ _ _ H)
        · refine zA_brF (c := x29 = 0) rfl rfl rfl c30 ?_
          refine zA_push rfl rfl zkk7 ?_
          refine zA_go rfl rfl ?_
          exact zA_tr (L := [some (zrv x0), some (zI x1), some (zI x2), none, none]) rfl rfl (zmS240_19 _ _ _ _ _ _ _ _ H)
      · cases H
        exact zA_callX (as := [zI x2, zI (0 : Int32), zI (199 : Int32)]) (st' := [zrv x0]) rfl rfl rfl rfl (zmE139 _ _ _) rfl rfl rfl (zmS139 C)
  · cases H
    exact zA_callX (as := [zI x1, zI (0 : Int32), zI ((zi h p21 i22 71) - (1 : Int32))]) (st' := [zrv x0]) rfl rfl rfl rfl (zmE139 _ _ _) rfl rfl rfl (zmS139 C)
theorem zmE240 (x0 : zq) (x1 : Int32) (x2 : Int32) : zpad (zPr.2.1 240).1 (zil [zrv x0, zI x1, zI x2]) = [some (zrv x0), some (zI x1), some (zI x2), none, none] := by
  simp only [zil_A, zil_I, zil_F, zil_D, zil_N]
  rfl
def zm291_2349 (k16 : zq → zq → zq → zq → zq → Int32 → zH → zRs Int32) (x0 : zq) (x1 : zq) (x2 : zq) (x3 : zq) (x4 : zq) (x5 : Int32) (h : zH) : zRs Int32 :=
  zlet (x5 + (10 : Int32)) fun x21 =>
  k16 x0 x1 x2 x3 x4 x21 h
theorem zmS291_2349 {k16 : zq → zq → zq → zq → zq → Int32 → zH → zRs Int32} (hk16 : ∀ (x0 : zq) (x1 : zq) (x2 : zq) (x3 : zq) (x4 : zq) (x5 : Int32) (h : zH) (r : Int32 ⊕ Nat) (h' : zH), k16 x0 x1 x2 x3 x4 x5 h = some (r, h') → zAt 291 16 [some (zrv x0), some (zrv x1), some (zrv x2), some (zrv x3), some (zrv x4), some (zI x5), none, none, none] [] h (zoI r) h') : ∀ (x0 : zq) (x1 : zq) (x2 : zq) (x3 : zq) (x4 : zq) (x5 : Int32) (h : zH) (r : Int32 ⊕ Nat) (h' : zH), zm291_2349 k16 x0 x1 x2 x3 x4 x5 h = some (r, h') → zAt 291 2349 [some (zrv x0), some (zrv x1), some (zrv x2), some (zrv x3), some (zrv x4), some (zI x5), none, none, none] [] h (zoI r) h' := by
  intro x0 x1 x2 x3 x4 x5 h r h' H
  unfold zm291_2349 at H
  obtain ⟨x21, e22, H⟩ := zlet_e H
  refine zA_inc rfl rfl rfl (e22.trans (congrArg (_ + ·) zkk62)) (zset1 (L' := [some (zrv x0), some (zrv x1), some (zrv x2), some (zrv x3), some (zrv x4), some (zI x21), none, none, none]) rfl rfl (zpcV rfl (zcat_rv _))) ?_
  refine zA_go rfl rfl ?_
  exact zA_tr (L := [some (zrv x0), some (zrv x1), some (zrv x2), some (zrv x3), some (zrv x4), some (zI x21), none, none, none]) rfl rfl (hk16 _ _ _ _ _ _ _ _ _ H)
def zm291_2304 (k16 : zq → zq → zq → zq → zq → Int32 → zH → zRs Int32) (x0 : zq) (x1 : zq) (x2 : zq) (x3 : zq) (x4 : zq) (x5 : Int32) (h : zH) : zRs Int32 :=
  zai x0 (x5 + (1 : Int32)) h fun p21 i22 j23 =>
  zai x0 (x5 + (2 : Int32)) h fun p28 i29 j30 =>
  zb2 (zm290 x1 (zi h p21 i22 j23) (zi h p28 i29 j30) x3 h) fun x36 h35 =>
  zai x0 (x5 + (1 : Int32)) h35 fun p37 i38 j39 =>
  zai x0 (x5 + (2 : Int32)) h35 fun p44 i45 j46 =>
  zob 12 x2 fun p51 i52 =>
  zb (zm240 x2 (zi h35 p37 i38 j39) (zi h35 p44 i45 j46) h35) fun x56 h55 =>
  zb (zm137 x2 h55) fun x58 h57 =>
  if x58 = x36 then
    if x36 = 0 then
      zar 3 x3 (0 : Int32) h57 fun p61 i62 j63 =>
      if (lg_cmp (zl h57 p61 i62 j63) (x56.toInt64)) = 0 then
        zm291_2349 k16 x0 x1 x2 x3 x4 x5 h57
      else
        some (.inl (0 : Int32), h57)
    else
      zm291_2349 k16 x0 x1 x2 x3 x4 x5 h57
  else
    some (.inl (0 : Int32), h57)
theorem zmS291_2304 {k16 : zq → zq → zq → zq → zq → Int32 → zH → zRs Int32} (hk16 : ∀ (x0 : zq) (x1 : zq) (x2 : zq) (x3 : zq) (x4 : zq) (x5 : Int32) (h : zH) (r : Int32 ⊕ Nat) (h' : zH), k16 x0 x1 x2 x3 x4 x5 h = some (r, h') → zAt 291 16 [some (zrv x0), some (zrv x1), some (zrv x2), some (zrv x3), some (zrv x4), some (zI x5), none, none, none] [] h (zoI r) h') : ∀ (x0 : zq) (x1 : zq) (x2 : zq) (x3 : zq) (x4 : zq) (x5 : Int32) (h : zH) (r : Int32 ⊕ Nat) (h' : zH), zm291_2304 k16 x0 x1 x2 x3 x4 x5 h = some (r, h') → zAt 291 2304 [some (zrv x0), some (zrv x1), some (zrv x2), some (zrv x3), some (zrv x4), some (zI x5), none, none, none] [] h (zoI r) h' := by
  intro x0 x1 x2 x3 x4 x5 h r h' H
  unfold zm291_2304 at H
  refine zA_aldn rfl rfl rfl ?_
  refine zA_aldn rfl rfl rfl ?_
  refine zA_ld rfl rfl rfl ?_
  refine zA_push rfl rfl zkk5 ?_
  refine zA_st (st' := [zI (x5 + (1 : Int32)), zrv x0, zrv x1]) rfl rfl rfl rfl ?_
  obtain ⟨p21, i22, j23, e24, c25, c26, e27, H⟩ := zai_e H
  refine zA_ial rfl rfl e24 c25 c26 e27 ?_
  refine zA_aldn rfl rfl rfl ?_
  refine zA_ld rfl rfl rfl ?_
  refine zA_push rfl rfl zkk23 ?_
  refine zA_st (st' := [zI (x5 + (2 : Int32)), zrv x0, zI (zi h p21 i22 j23), zrv x1]) rfl rfl rfl rfl ?_
  obtain ⟨p28, i29, j30, e31, c32, c33, e34, H⟩ := zai_e H
  refine zA_ial rfl rfl e31 c32 c33 e34 ?_
  refine zA_aldn rfl rfl rfl ?_
  obtain ⟨x36, h35, C, H⟩ := zb2_e H
  refine zA_callV (as := [zrv x1, zI (zi h p21 i22 j23), zI (zi h p28 i29 j30), zrv x3]) (st' := []) rfl rfl rfl rfl rfl (zmE290 _ _ _ _) rfl (zmS290 C) ?_
  refine zA_ist2 rfl rfl rfl (zset1 (L' := [some (zrv x0), some (zrv x1), some (zrv x2), some (zrv x3), some (zrv x4), some (zI x5), some (zI x36), none, none]) rfl rfl (zpcV rfl rfl)) ?_
  refine zA_aldn rfl rfl rfl ?_
  refine zA_aldn rfl rfl rfl ?_
  refine zA_ld rfl rfl rfl ?_
  refine zA_push rfl rfl zkk5 ?_
  refine zA_st (st' := [zI (x5 + (1 : Int32)), zrv x0, zrv x2]) rfl rfl rfl rfl ?_
  obtain ⟨p37, i38, j39, e40, c41, c42, e43, H⟩ := zai_e H
  refine zA_ial rfl rfl e40 c41 c42 e43 ?_
  refine zA_aldn rfl rfl rfl ?_
  refine zA_ld rfl rfl rfl ?_
  refine zA_push rfl rfl zkk23 ?_
  refine zA_st (st' := [zI (x5 + (2 : Int32)), zrv x0, zI (zi h35 p37 i38 j39), zrv x2]) rfl rfl rfl rfl ?_
  obtain ⟨p44, i45, j46, e47, c48, c49, e50, H⟩ := zai_e H
  refine zA_ial rfl rfl e47 c48 c49 e50 ?_
  obtain ⟨p51, i52, e53, c54, H⟩ := zob_e H
  rcases zb_e H with ⟨x56, h55, C, H⟩ | ⟨E, h55, C, H⟩
  · refine zA_callV (as := [zrv x2, zI (zi h35 p37 i38 j39), zI (zi h35 p44 i45 j46)]) (st' := []) rfl rfl rfl (zrcv_Q e53 c54) rfl (zmE240 _ _ _) rfl (zmS240 C) ?_
    refine zA_ist2 rfl rfl rfl (zset1 (L' := [some (zrv x0), some (zrv x1), some (zrv x2), some (zrv x3), some (zrv x4), some (zI x5), some (zI x36), some (zI x56), none]) rfl rfl (zpcV rfl rfl)) ?_
    refine zA_aldn rfl rfl rfl ?_
    rcases zb_e H with ⟨x58, h57, C, H⟩ | ⟨E, h57, C, H⟩
    · refine zA_callV (as := [zrv x2]) (st' := []) rfl rfl rfl (zrcv_Q e53 c54) rfl (zmE137 _) rfl (zmS137 C) ?_
      refine zA_ld rfl rfl rfl ?_
      rcases zite_e H with ⟨c59, H⟩ | ⟨c59, H⟩
      · refine zA_brT (c := x58 = x36) rfl rfl rfl c59 ?_
        refine zA_ld rfl rfl rfl ?_
        rcases zite_e H with ⟨c60, H⟩ | ⟨c60, H⟩
        · refine zA_brF' (c := x36 = 0) rfl rfl rfl c60 ?_
          refine zA_aldn rfl rfl rfl ?_
          refine zA_push rfl rfl zkk7 ?_
          obtain ⟨p61, i62, j63, e64, c65, c66, e67, H⟩ := zar_e H
          refine zA_lal rfl rfl e64 c65 c66 e67 ?_
          refine zA_ld rfl rfl rfl ?_
          refine zA_st (st' := [zJ (x56.toInt64), zJ (zl h57 p61 i62 j63)]) rfl rfl rfl rfl ?_
          refine zA_st (st' := [zI (lg_cmp (zl h57 p61 i62 j63) (x56.toInt64))]) rfl rfl rfl rfl ?_
          rcases zite_e H with ⟨c68, H⟩ | ⟨c68, H⟩
          · refine zA_brT (c := (lg_cmp (zl h57 p61 i62 j63) (x56.toInt64)) = 0) rfl rfl rfl c68 ?_
            refine zA_tr (L := [some (zrv x0), some (zrv x1), some (zrv x2), some (zrv x3), some (zrv x4), some (zI x5), none, none, none]) rfl rfl ?_
            refine zA_go rfl rfl ?_
            exact zA_tr (L := [some (zrv x0), some (zrv x1), some (zrv x2), some (zrv x3), some (zrv x4), some (zI x5), none, none, none]) rfl rfl (zmS291_2349 hk16 _ _ _ _ _ _ _ _ _ H)
          · refine zA_brF (c := (lg_cmp (zl h57 p61 i62 j63) (x56.toInt64)) = 0) rfl rfl rfl c68 ?_
            refine zA_push rfl rfl zkk7 ?_
            cases H
            exact zA_ret rfl (zret_Z (by decide))
        · refine zA_brT' (c := x36 = 0) rfl rfl rfl c60 ?_
          refine zA_tr (L := [some (zrv x0), some (zrv x1), some (zrv x2), some (zrv x3), some (zrv x4), some (zI x5), none, none, none]) rfl rfl ?_
          refine zA_go rfl rfl ?_
          exact zA_tr (L := [some (zrv x0), some (zrv x1), some (zrv x2), some (zrv x3), some (zrv x4), some (zI x5), none, none, none]) rfl rfl (zmS291_2349 hk16 _ _ _ _ _ _ _ _ _ H)
      · refine zA_brF (c := x58 = x36) rfl rfl rfl c59 ?_
        refine zA_push rfl rfl zkk7 ?_
        cases H
        exact zA_ret rfl (zret_Z (by decide))
    · cases H
      exact zA_callX (as := [zrv x2]) (st' := []) rfl rfl (zrcv_Q e53 c54) rfl (zmE137 _) rfl rfl rfl (zmS137 C)
  · cases H
    exact zA_callX (as := [zrv x2, zI (zi h35 p37 i38 j39), zI (zi h35 p44 i45 j46)]) (st' := []) rfl rfl (zrcv_Q e53 c54) rfl (zmE240 _ _ _) rfl rfl rfl (zmS240 C)
def zm291_2282 (k16 : zq → zq → zq → zq → zq → Int32 → zH → zRs Int32) (x0 : zq) (x1 : zq) (x2 : zq) (x3 : zq) (x4 : zq) (x5 : Int32) (h : zH) : zRs Int32 :=
  zai x0 (x5 + (1 : Int32)) h fun p21 i22 j23 =>
  zb2 (zm289 x1 (zi h p21 i22 j23) h) fun x29 h28 =>
  zai x0 (x5 + (1 : Int32)) h28 fun p30 i31 j32 =>
  zob 12 x2 fun p37 i38 =>
  zb (zm239 x2 (zi h28 p30 i31 j32) h28) fun _ h41 =>
  zb (zm137 x2 h41) fun x43 h42 =>
  if x43 = x29 then
    zm291_2349 k16 x0 x1 x2 x3 x4 x5 h42
  else
    some (.inl (0 : Int32), h42)
theorem zmS291_2282 {k16 : zq → zq → zq → zq → zq → Int32 → zH → zRs Int32} (hk16 : ∀ (x0 : zq) (x1 : zq) (x2 : zq) (x3 : zq) (x4 : zq) (x5 : Int32) (h : zH) (r : Int32 ⊕ Nat) (h' : zH), k16 x0 x1 x2 x3 x4 x5 h = some (r, h') → zAt 291 16 [some (zrv x0), some (zrv x1), some (zrv x2), some (zrv x3), some (zrv x4), some (zI x5), none, none, none] [] h (zoI r) h') : ∀ (x0 : zq) (x1 : zq) (x2 : zq) (x3 : zq) (x4 : zq) (x5 : Int32) (h : zH) (r : Int32 ⊕ Nat) (h' : zH), zm291_2282 k16 x0 x1 x2 x3 x4 x5 h = some (r, h') → zAt 291 2282 [some (zrv x0), some (zrv x1), some (zrv x2), some (zrv x3), some (zrv x4), some (zI x5), none, none, none] [] h (zoI r) h' := by
  intro x0 x1 x2 x3 x4 x5 h r h' H
  unfold zm291_2282 at H
  refine zA_aldn rfl rfl rfl ?_
  refine zA_aldn rfl rfl rfl ?_
  refine zA_ld rfl rfl rfl ?_
  refine zA_push rfl rfl zkk5 ?_
  refine zA_st (st' := [zI (x5 + (1 : Int32)), zrv x0, zrv x1]) rfl rfl rfl rfl ?_
  obtain ⟨p21, i22, j23, e24, c25, c26, e27, H⟩ := zai_e H
  refine zA_ial rfl rfl e24 c25 c26 e27 ?_
  obtain ⟨x29, h28, C, H⟩ := zb2_e H
  refine zA_callV (as := [zrv x1, zI (zi h p21 i22 j23)]) (st' := []) rfl rfl rfl rfl rfl (zmE289 _ _) rfl (zmS289 C) ?_
  refine zA_ist2 rfl rfl rfl (zset1 (L' := [some (zrv x0), some (zrv x1), some (zrv x2), some (zrv x3), some (zrv x4), some (zI x5), some (zI x29), none, none]) rfl rfl (zpcV rfl rfl)) ?_
  refine zA_aldn rfl rfl rfl ?_
  refine zA_aldn rfl rfl rfl ?_
  refine zA_ld rfl rfl rfl ?_
  refine zA_push rfl rfl zkk5 ?_
  refine zA_st (st' := [zI (x5 + (1 : Int32)), zrv x0, zrv x2]) rfl rfl rfl rfl ?_
  obtain ⟨p30, i31, j32, e33, c34, c35, e36, H⟩ := zai_e H
  refine zA_ial rfl rfl e33 c34 c35 e36 ?_
  obtain ⟨p37, i38, e39, c40, H⟩ := zob_e H
  rcases zb_e H with ⟨u45, h41, C, H⟩ | ⟨E, h41, C, H⟩
  · refine zA_callU (as := [zrv x2, zI (zi h28 p30 i31 j32)]) (st' := []) rfl rfl rfl (zrcv_Q e39 c40) rfl (zmE239 _ _) rfl (zmS239 C) ?_
    refine zA_aldn rfl rfl rfl ?_
    rcases zb_e H with ⟨x43, h42, C, H⟩ | ⟨E, h42, C, H⟩
    · refine zA_callV (as := [zrv x2]) (st' := []) rfl rfl rfl (zrcv_Q e39 c40) rfl (zmE137 _) rfl (zmS137 C) ?_
      refine zA_ld rfl rfl rfl ?_
      rcases zite_e H with ⟨c44, H⟩ | ⟨c44, H⟩
      · refine zA_brT (c := x43 = x29) rfl rfl rfl c44 ?_
        refine zA_tr (L := [some (zrv x0), some (zrv x1), some (zrv x2), some (zrv x3), some (zrv x4), some (zI x5), none, none, none]) rfl rfl ?_
        refine zA_go rfl rfl ?_
        exact zA_tr (L := [some (zrv x0), some (zrv x1), some (zrv x2), some (zrv x3), some (zrv x4), some (zI x5), none, none, none]) rfl rfl (zmS291_2349 hk16 _ _ _ _ _ _ _ _ _ H)
      · refine zA_brF (c := x43 = x29) rfl rfl rfl c44 ?_
        refine zA_push rfl rfl zkk7 ?_
        cases H
        exact zA_ret rfl (zret_Z (by decide))
    · cases H
      exact zA_callX (as := [zrv x2]) (st' := []) rfl rfl (zrcv_Q e39 c40) rfl (zmE137 _) rfl rfl rfl (zmS137 C)
  · cases H
    exact zA_callX (as := [zrv x2, zI (zi h28 p30 i31 j32)]) (st' := []) rfl rfl (zrcv_Q e39 c40) rfl (zmE239 _ _) rfl rfl rfl (zmS239 C)
def zm291_2207 (k16 : zq → zq → zq → zq → zq → Int32 → zH → zRs Int32) (x0 : zq) (x1 : zq) (x2 : zq) (x3 : zq) (x4 : zq) (x5 : Int32) (h : zH) : zRs Int32 :=
  zai x0 (x5 + (1 : Int32)) h fun p21 i22 j23 =>
  zai x0 (x5 + (2 : Int32)) h fun p28 i29 j30 =>
  zai x0 (x5 + (3 : Int32)) h fun p35 i36 j37 =>
  zai x0 (x5 + (4 : Int32)) h fun p42 i43 j44 =>
  zai x0 (x5 + (5 : Int32)) h fun p49 i50 j51 =>
  zb2 (zm288 x1 (zi h p21 i22 j23) (zi h p28 i29 j30) (zi h p35 i36 j37) (zi h p42 i43 j44) (zi h p49 i50 j51) x3 h) fun x57 h56 =>
  zai x0 (x5 + (1 : Int32)) h56 fun p58 i59 j60 =>
  zai x0 (x5 + (2 : Int32)) h56 fun p65 i66 j67 =>
  zai x0 (x5 + (3 : Int32)) h56 fun p72 i73 j74 =>
  zai x0 (x5 + (4 : Int32)) h56 fun p79 i80 j81 =>
  zai x0 (x5 + (5 : Int32)) h56 fun p86 i87 j88 =>
  zob 12 x2 fun p93 i94 =>
  zb (zm238 x2 (zi h56 p58 i59 j60) (zi h56 p65 i66 j67) (zi h56 p72 i73 j74) (zi h56 p79 i80 j81) (zi h56 p86 i87 j88) h56) fun x98 h97 =>
  zb (zm137 x2 h97) fun x100 h99 =>
  if x100 = x57 then
    if x57 = 0 then
      zar 3 x3 (0 : Int32) h99 fun p103 i104 j105 =>
      if (lg_cmp (zl h99 p103 i104 j105) (x98.toInt64)) = 0 then
        zm291_2349 k16 x0 x1 x2 x3 x4 x5 h99
      else
        some (.inl (0 : Int32), h99)
    else
      zm291_2349 k16 x0 x1 x2 x3 x4 x5 h99
  else
    some (.inl (0 : Int32), h99)
theorem zmS291_2207 {k16 : zq → zq → zq → zq → zq → Int32 → zH → zRs Int32} (hk16 : ∀ (x0 : zq) (x1 : zq) (x2 : zq) (x3 : zq) (x4 : zq) (x5 : Int32) (h : zH) (r : Int32 ⊕ Nat) (h' : zH), k16 x0 x1 x2 x3 x4 x5 h = some (r, h') → zAt 291 16 [some (zrv x0), some (zrv x1), some (zrv x2), some (zrv x3), some (zrv x4), some (zI x5), none, none, none] [] h (zoI r) h') : ∀ (x0 : zq) (x1 : zq) (x2 : zq) (x3 : zq) (x4 : zq) (x5 : Int32) (h : zH) (r : Int32 ⊕ Nat) (h' : zH), zm291_2207 k16 x0 x1 x2 x3 x4 x5 h = some (r, h') → zAt 291 2207 [some (zrv x0), some (zrv x1), some (zrv x2), some (zrv x3), some (zrv x4), some (zI x5), none, none, none] [] h (zoI r) h' := by
  intro x0 x1 x2 x3 x4 x5 h r h' H
  unfold zm291_2207 at H
  refine zA_aldn rfl rfl rfl ?_
  refine zA_aldn rfl rfl rfl ?_
  refine zA_ld rfl rfl rfl ?_
  refine zA_push rfl rfl zkk5 ?_
  refine zA_st (st' := [zI (x5 + (1 : Int32)), zrv x0, zrv x1]) rfl rfl rfl rfl ?_
  obtain ⟨p21, i22, j23, e24, c25, c26, e27, H⟩ := zai_e H
  refine zA_ial rfl rfl e24 c25 c26 e27 ?_
  refine zA_aldn rfl rfl rfl ?_
  refine zA_ld rfl rfl rfl ?_
  refine zA_push rfl rfl zkk23 ?_
  refine zA_st (st' := [zI (x5 + (2 : Int32)), zrv x0, zI (zi h p21 i22 j23), zrv x1]) rfl rfl rfl rfl ?_
  obtain ⟨p28, i29, j30, e31, c32, c33, e34, H⟩ := zai_e H
  refine zA_ial rfl rfl e31 c32 c33 e34 ?_
  refine zA_aldn rfl rfl rfl ?_
  refine zA_ld rfl rfl rfl ?_
  refine zA_push rfl rfl zkk3 ?_
  refine zA_st (st' := [zI (x5 + (3 : Int32)), zrv x0, zI (zi h p28 i29 j30), zI (zi h p21 i22 j23), zrv x1]) rfl rfl rfl rfl ?_
  obtain ⟨p35, i36, j37, e38, c39, c40, e41, H⟩ := zai_e H
  refine zA_ial rfl rfl e38 c39 c40 e41 ?_
  refine zA_aldn rfl rfl rfl ?_
  refine zA_ld rfl rfl rfl ?_
  refine zA_push rfl rfl zkk9 ?_
  refine zA_st (st' := [zI (x5 + (4 : Int32)), zrv x0, zI (zi h p35 i36 j37), zI (zi h p28 i29 j30), zI (zi h p21 i22 j23), zrv x1]) rfl rfl rfl rfl ?_
  obtain ⟨p42, i43, j44, e45, c46, c47, e48, H⟩ := zai_e H
  refine zA_ial rfl rfl e45 c46 c47 e48 ?_
  refine zA_aldn rfl rfl rfl ?_
  refine zA_ld rfl rfl rfl ?_
  refine zA_push rfl rfl zkk20 ?_
  refine zA_st (st' := [zI (x5 + (5 : Int32)), zrv x0, zI (zi h p42 i43 j44), zI (zi h p35 i36 j37), zI (zi h p28 i29 j30), zI (zi h p21 i22 j23), zrv x1]) rfl rfl rfl rfl ?_
  obtain ⟨p49, i50, j51, e52, c53, c54, e55, H⟩ := zai_e H
  refine zA_ial rfl rfl e52 c53 c54 e55 ?_
  refine zA_aldn rfl rfl rfl ?_
  obtain ⟨x57, h56, C, H⟩ := zb2_e H
  refine zA_callV (as := [zrv x1, zI (zi h p21 i22 j23), zI (zi h p28 i29 j30), zI (zi h p35 i36 j37), zI (zi h p42 i43 j44), zI (zi h p49 i50 j51), zrv x3]) (st' := []) rfl rfl rfl rfl rfl (zmE288 _ _ _ _ _ _ _) rfl (zmS288 C) ?_
  refine zA_ist2 rfl rfl rfl (zset1 (L' := [some (zrv x0), some (zrv x1), some (zrv x2), some (zrv x3), some (zrv x4), some (zI x5), some (zI x57), none, none]) rfl rfl (zpcV rfl rfl)) ?_
  refine zA_aldn rfl rfl rfl ?_
  refine zA_aldn rfl rfl rfl ?_
  refine zA_ld rfl rfl rfl ?_
  refine zA_push rfl rfl zkk5 ?_
  refine zA_st (st' := [zI (x5 + (1 : Int32)), zrv x0, zrv x2]) rfl rfl rfl rfl ?_
  obtain ⟨p58, i59, j60, e61, c62, c63, e64, H⟩ := zai_e H
  refine zA_ial rfl rfl e61 c62 c63 e64 ?_
  refine zA_aldn rfl rfl rfl ?_
  refine zA_ld rfl rfl rfl ?_
  refine zA_push rfl rfl zkk23 ?_
  refine zA_st (st' := [zI (x5 + (2 : Int32)), zrv x0, zI (zi h56 p58 i59 j60), zrv x2]) rfl rfl rfl rfl ?_
  obtain ⟨p65, i66, j67, e68, c69, c70, e71, H⟩ := zai_e H
  refine zA_ial rfl rfl e68 c69 c70 e71 ?_
  refine zA_aldn rfl rfl rfl ?_
  refine zA_ld rfl rfl rfl ?_
  refine zA_push rfl rfl zkk3 ?_
  refine zA_st (st' := [zI (x5 + (3 : Int32)), zrv x0, zI (zi h56 p65 i66 j67), zI (zi h56 p58 i59 j60), zrv x2]) rfl rfl rfl rfl ?_
  obtain ⟨p72, i73, j74, e75, c76, c77, e78, H⟩ := zai_e H
  refine zA_ial rfl rfl e75 c76 c77 e78 ?_
  refine zA_aldn rfl rfl rfl ?_
  refine zA_ld rfl rfl rfl ?_
  refine zA_push rfl rfl zkk9 ?_
  refine zA_st (st' := [zI (x5 + (4 : Int32)), zrv x0, zI (zi h56 p72 i73 j74), zI (zi h56 p65 i66 j67), zI (zi h56 p58 i59 j60), zrv x2]) rfl rfl rfl rfl ?_
  obtain ⟨p79, i80, j81, e82, c83, c84, e85, H⟩ := zai_e H
  refine zA_ial rfl rfl e82 c83 c84 e85 ?_
  refine zA_aldn rfl rfl rfl ?_
  refine zA_ld rfl rfl rfl ?_
  refine zA_push rfl rfl zkk20 ?_
  refine zA_st (st' := [zI (x5 + (5 : Int32)), zrv x0, zI (zi h56 p79 i80 j81), zI (zi h56 p72 i73 j74), zI (zi h56 p65 i66 j67), zI (zi h56 p58 i59 j60), zrv x2]) rfl rfl rfl rfl ?_
  obtain ⟨p86, i87, j88, e89, c90, c91, e92, H⟩ := zai_e H
  refine zA_ial rfl rfl e89 c90 c91 e92 ?_
  obtain ⟨p93, i94, e95, c96, H⟩ := zob_e H
  rcases zb_e H with ⟨x98, h97, C, H⟩ | ⟨E, h97, C, H⟩
  · refine zA_callV (as := [zrv x2, zI (zi h56 p58 i59 j60), zI (zi h56 p65 i66 j67), zI (zi h56 p72 i73 j74), zI (zi h56 p79 i80 j81), zI (zi h56 p86 i87 j88)]) (st' := []) rfl rfl rfl (zrcv_Q e95 c96) rfl (zmE238 _ _ _ _ _ _) rfl (zmS238 C) ?_
    refine zA_ist2 rfl rfl rfl (zset1 (L' := [some (zrv x0), some (zrv x1), some (zrv x2), some (zrv x3), some (zrv x4), some (zI x5), some (zI x57), some (zI x98), none]) rfl rfl (zpcV rfl rfl)) ?_
    refine zA_aldn rfl rfl rfl ?_
    rcases zb_e H with ⟨x100, h99, C, H⟩ | ⟨E, h99, C, H⟩
    · refine zA_callV (as := [zrv x2]) (st' := []) rfl rfl rfl (zrcv_Q e95 c96) rfl (zmE137 _) rfl (zmS137 C) ?_
      refine zA_ld rfl rfl rfl ?_
      rcases zite_e H with ⟨c101, H⟩ | ⟨c101, H⟩
      · refine zA_brT (c := x100 = x57) rfl rfl rfl c101 ?_
        refine zA_ld rfl rfl rfl ?_
        rcases zite_e H with ⟨c102, H⟩ | ⟨c102, H⟩
        · refine zA_brF' (c := x57 = 0) rfl rfl rfl c102 ?_
          refine zA_aldn rfl rfl rfl ?_
          refine zA_push rfl rfl zkk7 ?_
          obtain ⟨p103, i104, j105, e106, c107, c108, e109, H⟩ := zar_e H
          refine zA_lal rfl rfl e106 c107 c108 e109 ?_
          refine zA_ld rfl rfl rfl ?_
          refine zA_st (st' := [zJ (x98.toInt64), zJ (zl h99 p103 i104 j105)]) rfl rfl rfl rfl ?_
          refine zA_st (st' := [zI (lg_cmp (zl h99 p103 i104 j105) (x98.toInt64))]) rfl rfl rfl rfl ?_
          rcases zite_e H with ⟨c110, H⟩ | ⟨c110, H⟩
          · refine zA_brT (c := (lg_cmp (zl h99 p103 i104 j105) (x98.toInt64)) = 0) rfl rfl rfl c110 ?_
            refine zA_tr (L := [some (zrv x0), some (zrv x1), some (zrv x2), some (zrv x3), some (zrv x4), some (zI x5), none, none, none]) rfl rfl ?_
            refine zA_go rfl rfl ?_
            exact zA_tr (L := [some (zrv x0), some (zrv x1), some (zrv x2), some (zrv x3), some (zrv x4), some (zI x5), none, none, none]) rfl rfl (zmS291_2349 hk16 _ _ _ _ _ _ _ _ _ H)
          · refine zA_brF (c := (lg_cmp (zl h99 p103 i104 j105) (x98.toInt64)) = 0) rfl rfl rfl c110 ?_
            refine zA_push rfl rfl zkk7 ?_
            cases H
            exact zA_ret rfl (zret_Z (by decide))
        · refine zA_brT' (c := x57 = 0) rfl rfl rfl c102 ?_
          refine zA_tr (L := [some (zrv x0), some (zrv x1), some (zrv x2), some (zrv x3), some (zrv x4), some (zI x5), none, none, none]) rfl rfl ?_
          refine zA_go rfl rfl ?_
          exact zA_tr (L := [some (zrv x0), some (zrv x1), some (zrv x2), some (zrv x3), some (zrv x4), some (zI x5), none, none, none]) rfl rfl (zmS291_2349 hk16 _ _ _ _ _ _ _ _ _ H)
      · refine zA_brF (c := x100 = x57) rfl rfl rfl c101 ?_
        refine zA_push rfl rfl zkk7 ?_
        cases H
        exact zA_ret rfl (zret_Z (by decide))
    · cases H
      exact zA_callX (as := [zrv x2]) (st' := []) rfl rfl (zrcv_Q e95 c96) rfl (zmE137 _) rfl rfl rfl (zmS137 C)
  · cases H
    exact zA_callX (as := [zrv x2, zI (zi h56 p58 i59 j60), zI (zi h56 p65 i66 j67), zI (zi h56 p72 i73 j74), zI (zi h56 p79 i80 j81), zI (zi h56 p86 i87 j88)]) (st' := []) rfl rfl (zrcv_Q e95 c96) rfl (zmE238 _ _ _ _ _ _) rfl rfl rfl (zmS238 C)
def zm291_2200 (k16 : zq → zq → zq → zq → zq → Int32 → zH → zRs Int32) (x0 : zq) (x1 : zq) (x2 : zq) (x3 : zq) (x4 : zq) (x5 : Int32) (h : zH) : zRs Int32 :=
  zob 11 x1 fun p21 i22 =>
  zb (zm125 x1 h) fun x26 h25 =>
  zob 12 x2 fun p27 i28 =>
  zb (zm237 x2 h25) fun x32 h31 =>
  if x26 = x32 then
    zm291_2349 k16 x0 x1 x2 x3 x4 x5 h31
  else
    some (.inl (0 : Int32), h31)
theorem zmS291_2200 {k16 : zq → zq → zq → zq → zq → Int32 → zH → zRs Int32} (hk16 : ∀ (x0 : zq) (x1 : zq) (x2 : zq) (x3 : zq) (x4 : zq) (x5 : Int32) (h : zH) (r : Int32 ⊕ Nat) (h' : zH), k16 x0 x1 x2 x3 x4 x5 h = some (r, h') → zAt 291 16 [some (zrv x0), some (zrv x1), some (zrv x2), some (zrv x3), some (zrv x4), some (zI x5), none, none, none] [] h (zoI r) h') : ∀ (x0 : zq) (x1 : zq) (x2 : zq) (x3 : zq) (x4 : zq) (x5 : Int32) (h : zH) (r : Int32 ⊕ Nat) (h' : zH), zm291_2200 k16 x0 x1 x2 x3 x4 x5 h = some (r, h') → zAt 291 2200 [some (zrv x0), some (zrv x1), some (zrv x2), some (zrv x3), some (zrv x4), some (zI x5), none, none, none] [] h (zoI r) h' := by
  intro x0 x1 x2 x3 x4 x5 h r h' H
  unfold zm291_2200 at H
  refine zA_aldn rfl rfl rfl ?_
  obtain ⟨p21, i22, e23, c24, H⟩ := zob_e H
  rcases zb_e H with ⟨x26, h25, C, H⟩ | ⟨E, h25, C, H⟩
  · refine zA_callV (as := [zrv x1]) (st' := []) rfl rfl rfl (zrcv_Q e23 c24) rfl (zmE125 _) rfl (zmS125 C) ?_
    refine zA_aldn rfl rfl rfl ?_
    obtain ⟨p27, i28, e29, c30, H⟩ := zob_e H
    rcases zb_e H with ⟨x32, h31, C, H⟩ | ⟨E, h31, C, H⟩
    · refine zA_callV (as := [zrv x2]) (st' := [zI x26]) rfl rfl rfl (zrcv_Q e29 c30) rfl (zmE237 _) rfl (zmS237 C) ?_
      rcases zite_e H with ⟨c33, H⟩ | ⟨c33, H⟩
      · refine zA_brT (c := x26 = x32) rfl rfl rfl c33 ?_
        exact zA_tr (L := [some (zrv x0), some (zrv x1), some (zrv x2), some (zrv x3), some (zrv x4), some (zI x5), none, none, none]) rfl rfl (zmS291_2349 hk16 _ _ _ _ _ _ _ _ _ H)
      · refine zA_brF (c := x26 = x32) rfl rfl rfl c33 ?_
        refine zA_push rfl rfl zkk7 ?_
        cases H
        exact zA_ret rfl (zret_Z (by decide))
    · cases H
      exact zA_callX (as := [zrv x2]) (st' := [zI x26]) rfl rfl (zrcv_Q e29 c30) rfl (zmE237 _) rfl rfl rfl (zmS237 C)
  · cases H
    exact zA_callX (as := [zrv x1]) (st' := []) rfl rfl (zrcv_Q e23 c24) rfl (zmE125 _) rfl rfl rfl (zmS125 C)
def zm291_2195 (k16 : zq → zq → zq → zq → zq → Int32 → zH → zRs Int32) (x0 : zq) (x1 : zq) (x2 : zq) (x3 : zq) (x4 : zq) (x5 : Int32) (s0 : Int64) (s1 : Int64) (h : zH) : zRs Int32 :=
  if (lg_cmp s0 s1) = 0 then
    zm291_2349 k16 x0 x1 x2 x3 x4 x5 h
  else
    some (.inl (0 : Int32), h)
theorem zmS291_2195 {k16 : zq → zq → zq → zq → zq → Int32 → zH → zRs Int32} (hk16 : ∀ (x0 : zq) (x1 : zq) (x2 : zq) (x3 : zq) (x4 : zq) (x5 : Int32) (h : zH) (r : Int32 ⊕ Nat) (h' : zH), k16 x0 x1 x2 x3 x4 x5 h = some (r, h') → zAt 291 16 [some (zrv x0), some (zrv x1), some (zrv x2), some (zrv x3), some (zrv x4), some (zI x5), none, none, none] [] h (zoI r) h') : ∀ (x0 : zq) (x1 : zq) (x2 : zq) (x3 : zq) (x4 : zq) (x5 : Int32) (s0 : Int64) (s1 : Int64) (h : zH) (r : Int32 ⊕ Nat) (h' : zH), zm291_2195 k16 x0 x1 x2 x3 x4 x5 s0 s1 h = some (r, h') → zAt 291 2195 [some (zrv x0), some (zrv x1), some (zrv x2), some (zrv x3), some (zrv x4), some (zI x5), none, none, none] [zJ s1, zJ s0] h (zoI r) h' := by
  intro x0 x1 x2 x3 x4 x5 s0 s1 h r h' H
  unfold zm291_2195 at H
  refine zA_st (st' := [zI (lg_cmp s0 s1)]) rfl rfl rfl rfl ?_
  rcases zite_e H with ⟨c21, H⟩ | ⟨c21, H⟩
  · refine zA_brT (c := (lg_cmp s0 s1) = 0) rfl rfl rfl c21 ?_
    refine zA_go rfl rfl ?_
    exact zA_tr (L := [some (zrv x0), some (zrv x1), some (zrv x2), some (zrv x3), some (zrv x4), some (zI x5), none, none, none]) rfl rfl (zmS291_2349 hk16 _ _ _ _ _ _ _ _ _ H)
  · refine zA_brF (c := (lg_cmp s0 s1) = 0) rfl rfl rfl c21 ?_
    refine zA_push rfl rfl zkk7 ?_
    cases H
    exact zA_ret rfl (zret_Z (by decide))
def zm291_2152 (k16 : zq → zq → zq → zq → zq → Int32 → zH → zRs Int32) (x0 : zq) (x1 : zq) (x2 : zq) (x3 : zq) (x4 : zq) (x5 : Int32) (h : zH) : zRs Int32 :=
  zai x0 (x5 + (1 : Int32)) h fun p21 i22 j23 =>
  zai x0 (x5 + (2 : Int32)) h fun p28 i29 j30 =>
  zb2 (zm287 x1 (zi h p21 i22 j23) (zi h p28 i29 j30) x3 h) fun x36 h35 =>
  zai x0 (x5 + (1 : Int32)) h35 fun p37 i38 j39 =>
  zai x0 (x5 + (2 : Int32)) h35 fun p44 i45 j46 =>
  zob 12 x2 fun p51 i52 =>
  zb (zm236 x2 (zi h35 p37 i38 j39) (zi h35 p44 i45 j46) h35) fun x56 h55 =>
  zb (zm137 x2 h55) fun x58 h57 =>
  if x58 = x36 then
    if x36 = 0 then
      zar 3 x3 (0 : Int32) h57 fun p61 i62 j63 =>
      if x56 = 0 then
        zm291_2195 k16 x0 x1 x2 x3 x4 x5 (zl h57 p61 i62 j63) (0 : Int64) h57
      else
        zm291_2195 k16 x0 x1 x2 x3 x4 x5 (zl h57 p61 i62 j63) (1 : Int64) h57
    else
      zm291_2349 k16 x0 x1 x2 x3 x4 x5 h57
  else
    some (.inl (0 : Int32), h57)
theorem zmS291_2152 {k16 : zq → zq → zq → zq → zq → Int32 → zH → zRs Int32} (hk16 : ∀ (x0 : zq) (x1 : zq) (x2 : zq) (x3 : zq) (x4 : zq) (x5 : Int32) (h : zH) (r : Int32 ⊕ Nat) (h' : zH), k16 x0 x1 x2 x3 x4 x5 h = some (r, h') → zAt 291 16 [some (zrv x0), some (zrv x1), some (zrv x2), some (zrv x3), some (zrv x4), some (zI x5), none, none, none] [] h (zoI r) h') : ∀ (x0 : zq) (x1 : zq) (x2 : zq) (x3 : zq) (x4 : zq) (x5 : Int32) (h : zH) (r : Int32 ⊕ Nat) (h' : zH), zm291_2152 k16 x0 x1 x2 x3 x4 x5 h = some (r, h') → zAt 291 2152 [some (zrv x0), some (zrv x1), some (zrv x2), some (zrv x3), some (zrv x4), some (zI x5), none, none, none] [] h (zoI r) h' := by
  intro x0 x1 x2 x3 x4 x5 h r h' H
  unfold zm291_2152 at H
  refine zA_aldn rfl rfl rfl ?_
  refine zA_aldn rfl rfl rfl ?_
  refine zA_ld rfl rfl rfl ?_
  refine zA_push rfl rfl zkk5 ?_
  refine zA_st (st' := [zI (x5 + (1 : Int32)), zrv x0, zrv x1]) rfl rfl rfl rfl ?_
  obtain ⟨p21, i22, j23, e24, c25, c26, e27, H⟩ := zai_e H
  refine zA_ial rfl rfl e24 c25 c26 e27 ?_
  refine zA_aldn rfl rfl rfl ?_
  refine zA_ld rfl rfl rfl ?_
  refine zA_push rfl rfl zkk23 ?_
  refine zA_st (st' := [zI (x5 + (2 : Int32)), zrv x0, zI (zi h p21 i22 j23), zrv x1]) rfl rfl rfl rfl ?_
  obtain ⟨p28, i29, j30, e31, c32, c33, e34, H⟩ := zai_e H
  refine zA_ial rfl rfl e31 c32 c33 e34 ?_
  refine zA_aldn rfl rfl rfl ?_
  obtain ⟨x36, h35, C, H⟩ := zb2_e H
  refine zA_callV (as := [zrv x1, zI (zi h p21 i22 j23), zI (zi h p28 i29 j30), zrv x3]) (st' := []) rfl rfl rfl rfl rfl (zmE287 _ _ _ _) rfl (zmS287 C) ?_
  refine zA_ist2 rfl rfl rfl (zset1 (L' := [some (zrv x0), some (zrv x1), some (zrv x2), some (zrv x3), some (zrv x4), some (zI x5), some (zI x36), none, none]) rfl rfl (zpcV rfl rfl)) ?_
  refine zA_aldn rfl rfl rfl ?_
  refine zA_aldn rfl rfl rfl ?_
  refine zA_ld rfl rfl rfl ?_
  refine zA_push rfl rfl zkk5 ?_
  refine zA_st (st' := [zI (x5 + (1 : Int32)), zrv x0, zrv x2]) rfl rfl rfl rfl ?_
  obtain ⟨p37, i38, j39, e40, c41, c42, e43, H⟩ := zai_e H
  refine zA_ial rfl rfl e40 c41 c42 e43 ?_
  refine zA_aldn rfl rfl rfl ?_
  refine zA_ld rfl rfl rfl ?_
  refine zA_push rfl rfl zkk23 ?_
  refine zA_st (st' := [zI (x5 + (2 : Int32)), zrv x0, zI (zi h35 p37 i38 j39), zrv x2]) rfl rfl rfl rfl ?_
  obtain ⟨p44, i45, j46, e47, c48, c49, e50, H⟩ := zai_e H
  refine zA_ial rfl rfl e47 c48 c49 e50 ?_
  obtain ⟨p51, i52, e53, c54, H⟩ := zob_e H
  rcases zb_e H with ⟨x56, h55, C, H⟩ | ⟨E, h55, C, H⟩
  · refine zA_callV (as := [zrv x2, zI (zi h35 p37 i38 j39), zI (zi h35 p44 i45 j46)]) (st' := []) rfl rfl rfl (zrcv_Q e53 c54) rfl (zmE236 _ _ _) rfl (zmS236 C) ?_
    refine zA_ist2 rfl rfl rfl (zset1 (L' := [some (zrv x0), some (zrv x1), some (zrv x2), some (zrv x3), some (zrv x4), some (zI x5), some (zI x36), some (zI x56), none]) rfl rfl (zpcV rfl rfl)) ?_
    refine zA_aldn rfl rfl rfl ?_
    rcases zb_e H with ⟨x58, h57, C, H⟩ | ⟨E, h57, C, H⟩
    · refine zA_callV (as := [zrv x2]) (st' := []) rfl rfl rfl (zrcv_Q e53 c54) rfl (zmE137 _) rfl (zmS137 C) ?_
      refine zA_ld rfl rfl rfl ?_
      rcases zite_e H with ⟨c59, H⟩ | ⟨c59, H⟩
      · refine zA_brT (c := x58 = x36) rfl rfl rfl c59 ?_
        refine zA_ld rfl rfl rfl ?_
        rcases zite_e H with ⟨c60, H⟩ | ⟨c60, H⟩
        · refine zA_brF' (c := x36 = 0) rfl rfl rfl c60 ?_
          refine zA_aldn rfl rfl rfl ?_
          refine zA_push rfl rfl zkk7 ?_
          obtain ⟨p61, i62, j63, e64, c65, c66, e67, H⟩ := zar_e H
          refine zA_lal rfl rfl e64 c65 c66 e67 ?_
          refine zA_ld rfl rfl rfl ?_
          rcases zite_e H with ⟨c68, H⟩ | ⟨c68, H⟩
          · refine zA_brT (c := x56 = 0) rfl rfl rfl c68 ?_
            refine zA_tr (L := [some (zrv x0), some (zrv x1), some (zrv x2), some (zrv x3), some (zrv x4), some (zI x5), none, none, none]) rfl rfl ?_
            refine zA_push rfl rfl zkk24 ?_
            exact zA_tr (L := [some (zrv x0), some (zrv x1), some (zrv x2), some (zrv x3), some (zrv x4), some (zI x5), none, none, none]) rfl rfl (zmS291_2195 hk16 _ _ _ _ _ _ _ _ _ _ _ H)
          · refine zA_brF (c := x56 = 0) rfl rfl rfl c68 ?_
            refine zA_push rfl rfl zkk25 ?_
            refine zA_go rfl rfl ?_
            exact zA_tr (L := [some (zrv x0), some (zrv x1), some (zrv x2), some (zrv x3), some (zrv x4), some (zI x5), none, none, none]) rfl rfl (zmS291_2195 hk16 _ _ _ _ _ _ _ _ _ _ _ H)
        · refine zA_brT' (c := x36 = 0) rfl rfl rfl c60 ?_
          refine zA_tr (L := [some (zrv x0), some (zrv x1), some (zrv x2), some (zrv x3), some (zrv x4), some (zI x5), none, none, none]) rfl rfl ?_
          refine zA_go rfl rfl ?_
          exact zA_tr (L := [some (zrv x0), some (zrv x1), some (zrv x2), some (zrv x3), some (zrv x4), some (zI x5), none, none, none]) rfl rfl (zmS291_2349 hk16 _ _ _ _ _ _ _ _ _ H)
      · refine zA_brF (c := x58 = x36) rfl rfl rfl c59 ?_
        refine zA_push rfl rfl zkk7 ?_
        cases H
        exact zA_ret rfl (zret_Z (by decide))
    · cases H
      exact zA_callX (as := [zrv x2]) (st' := []) rfl rfl (zrcv_Q e53 c54) rfl (zmE137 _) rfl rfl rfl (zmS137 C)
  · cases H
    exact zA_callX (as := [zrv x2, zI (zi h35 p37 i38 j39), zI (zi h35 p44 i45 j46)]) (st' := []) rfl rfl (zrcv_Q e53 c54) rfl (zmE236 _ _ _) rfl rfl rfl (zmS236 C)
def zm291_2120 (k16 : zq → zq → zq → zq → zq → Int32 → zH → zRs Int32) (x0 : zq) (x1 : zq) (x2 : zq) (x3 : zq) (x4 : zq) (x5 : Int32) (h : zH) : zRs Int32 :=
  zai x0 (x5 + (1 : Int32)) h fun p21 i22 j23 =>
  zai x0 (x5 + (2 : Int32)) h fun p28 i29 j30 =>
  zb2 (zm286 x1 (zi h p21 i22 j23) (zi h p28 i29 j30) h) fun x36 h35 =>
  zai x0 (x5 + (1 : Int32)) h35 fun p37 i38 j39 =>
  zai x0 (x5 + (2 : Int32)) h35 fun p44 i45 j46 =>
  zob 12 x2 fun p51 i52 =>
  zb (zm233 x2 (zi h35 p37 i38 j39) (zi h35 p44 i45 j46) h35) fun _ h55 =>
  zb (zm137 x2 h55) fun x57 h56 =>
  if x57 = x36 then
    zm291_2349 k16 x0 x1 x2 x3 x4 x5 h56
  else
    some (.inl (0 : Int32), h56)
theorem zmS291_2120 {k16 : zq → zq → zq → zq → zq → Int32 → zH → zRs Int32} (hk16 : ∀ (x0 : zq) (x1 : zq) (x2 : zq) (x3 : zq) (x4 : zq) (x5 : Int32) (h : zH) (r : Int32 ⊕ Nat) (h' : zH), k16 x0 x1 x2 x3 x4 x5 h = some (r, h') → zAt 291 16 [some (zrv x0), some (zrv x1), some (zrv x2), some (zrv x3), some (zrv x4), some (zI x5), none, none, none] [] h (zoI r) h') : ∀ (x0 : zq) (x1 : zq) (x2 : zq) (x3 : zq) (x4 : zq) (x5 : Int32) (h : zH) (r : Int32 ⊕ Nat) (h' : zH), zm291_2120 k16 x0 x1 x2 x3 x4 x5 h = some (r, h') → zAt 291 2120 [some (zrv x0), some (zrv x1), some (zrv x2), some (zrv x3), some (zrv x4), some (zI x5), none, none, none] [] h (zoI r) h' := by
  intro x0 x1 x2 x3 x4 x5 h r h' H
  unfold zm291_2120 at H
  refine zA_aldn rfl rfl rfl ?_
  refine zA_aldn rfl rfl rfl ?_
  refine zA_ld rfl rfl rfl ?_
  refine zA_push rfl rfl zkk5 ?_
  refine zA_st (st' := [zI (x5 + (1 : Int32)), zrv x0, zrv x1]) rfl rfl rfl rfl ?_
  obtain ⟨p21, i22, j23, e24, c25, c26, e27, H⟩ := zai_e H
  refine zA_ial rfl rfl e24 c25 c26 e27 ?_
  refine zA_aldn rfl rfl rfl ?_
  refine zA_ld rfl rfl rfl ?_
  refine zA_push rfl rfl zkk23 ?_
  refine zA_st (st' := [zI (x5 + (2 : Int32)), zrv x0, zI (zi h p21 i22 j23), zrv x1]) rfl rfl rfl rfl ?_
  obtain ⟨p28, i29, j30, e31, c32, c33, e34, H⟩ := zai_e H
  refine zA_ial rfl rfl e31 c32 c33 e34 ?_
  obtain ⟨x36, h35, C, H⟩ := zb2_e H
  refine zA_callV (as := [zrv x1, zI (zi h p21 i22 j23), zI (zi h p28 i29 j30)]) (st' := []) rfl rfl rfl rfl rfl (zmE286 _ _ _) rfl (zmS286 C) ?_
  refine zA_ist2 rfl rfl rfl (zset1 (L' := [some (zrv x0), some (zrv x1), some (zrv x2), some (zrv x3), some (zrv x4), some (zI x5), some (zI x36), none, none]) rfl rfl (zpcV rfl rfl)) ?_
  refine zA_aldn rfl rfl rfl ?_
  refine zA_aldn rfl rfl rfl ?_
  refine zA_ld rfl rfl rfl ?_
  refine zA_push rfl rfl zkk5 ?_
  refine zA_st (st' := [zI (x5 + (1 : Int32)), zrv x0, zrv x2]) rfl rfl rfl rfl ?_
  obtain ⟨p37, i38, j39, e40, c41, c42, e43, H⟩ := zai_e H
  refine zA_ial rfl rfl e40 c41 c42 e43 ?_
  refine zA_aldn rfl rfl rfl ?_
  refine zA_ld rfl rfl rfl ?_
  refine zA_push rfl rfl zkk23 ?_
  refine zA_st (st' := [zI (x5 + (2 : Int32)), zrv x0, zI (zi h35 p37 i38 j39), zrv x2]) rfl rfl rfl rfl ?_
  obtain ⟨p44, i45, j46, e47, c48, c49, e50, H⟩ := zai_e H
  refine zA_ial rfl rfl e47 c48 c49 e50 ?_
  obtain ⟨p51, i52, e53, c54, H⟩ := zob_e H
  rcases zb_e H with ⟨u59, h55, C, H⟩ | ⟨E, h55, C, H⟩
  · refine zA_callU (as := [zrv x2, zI (zi h35 p37 i38 j39), zI (zi h35 p44 i45 j46)]) (st' := []) rfl rfl rfl (zrcv_Q e53 c54) rfl (zmE233 _ _ _) rfl (zmS233 C) ?_
    refine zA_aldn rfl rfl rfl ?_
    rcases zb_e H with ⟨x57, h56, C, H⟩ | ⟨E, h56, C, H⟩
    · refine zA_callV (as := [zrv x2]) (st' := []) rfl rfl rfl (zrcv_Q e53 c54) rfl (zmE137 _) rfl (zmS137 C) ?_
      refine zA_ld rfl rfl rfl ?_
      rcases zite_e H with ⟨c58, H⟩ | ⟨c58, H⟩
      · refine zA_brT (c := x57 = x36) rfl rfl rfl c58 ?_
        refine zA_tr (L := [some (zrv x0), some (zrv x1), some (zrv x2), some (zrv x3), some (zrv x4), some (zI x5), none, none, none]) rfl rfl ?_
        refine zA_go rfl rfl ?_
        exact zA_tr (L := [some (zrv x0), some (zrv x1), some (zrv x2), some (zrv x3), some (zrv x4), some (zI x5), none, none, none]) rfl rfl (zmS291_2349 hk16 _ _ _ _ _ _ _ _ _ H)
      · refine zA_brF (c := x57 = x36) rfl rfl rfl c58 ?_
        refine zA_push rfl rfl zkk7 ?_
        cases H
        exact zA_ret rfl (zret_Z (by decide))
    · cases H
      exact zA_callX (as := [zrv x2]) (st' := []) rfl rfl (zrcv_Q e53 c54) rfl (zmE137 _) rfl rfl rfl (zmS137 C)
  · cases H
    exact zA_callX (as := [zrv x2, zI (zi h35 p37 i38 j39), zI (zi h35 p44 i45 j46)]) (st' := []) rfl rfl (zrcv_Q e53 c54) rfl (zmE233 _ _ _) rfl rfl rfl (zmS233 C)
def zm291_2115 (k16 : zq → zq → zq → zq → zq → Int32 → zH → zRs Int32) (x0 : zq) (x1 : zq) (x2 : zq) (x3 : zq) (x4 : zq) (x5 : Int32) (s0 : Int64) (s1 : Int64) (h : zH) : zRs Int32 :=
  if (lg_cmp s0 s1) = 0 then
    zm291_2349 k16 x0 x1 x2 x3 x4 x5 h
  else
    some (.inl (0 : Int32), h)
theorem zmS291_2115 {k16 : zq → zq → zq → zq → zq → Int32 → zH → zRs Int32} (hk16 : ∀ (x0 : zq) (x1 : zq) (x2 : zq) (x3 : zq) (x4 : zq) (x5 : Int32) (h : zH) (r : Int32 ⊕ Nat) (h' : zH), k16 x0 x1 x2 x3 x4 x5 h = some (r, h') → zAt 291 16 [some (zrv x0), some (zrv x1), some (zrv x2), some (zrv x3), some (zrv x4), some (zI x5), none, none, none] [] h (zoI r) h') : ∀ (x0 : zq) (x1 : zq) (x2 : zq) (x3 : zq) (x4 : zq) (x5 : Int32) (s0 : Int64) (s1 : Int64) (h : zH) (r : Int32 ⊕ Nat) (h' : zH), zm291_2115 k16 x0 x1 x2 x3 x4 x5 s0 s1 h = some (r, h') → zAt 291 2115 [some (zrv x0), some (zrv x1), some (zrv x2), some (zrv x3), some (zrv x4), some (zI x5), none, none, none] [zJ s1, zJ s0] h (zoI r) h' := by
  intro x0 x1 x2 x3 x4 x5 s0 s1 h r h' H
  unfold zm291_2115 at H
  refine zA_st (st' := [zI (lg_cmp s0 s1)]) rfl rfl rfl rfl ?_
  rcases zite_e H with ⟨c21, H⟩ | ⟨c21, H⟩
  · refine zA_brT (c := (lg_cmp s0 s1) = 0) rfl rfl rfl c21 ?_
    refine zA_go rfl rfl ?_
    exact zA_tr (L := [some (zrv x0), some (zrv x1), some (zrv x2), some (zrv x3), some (zrv x4), some (zI x5), none, none, none]) rfl rfl (zmS291_2349 hk16 _ _ _ _ _ _ _ _ _ H)
  · refine zA_brF (c := (lg_cmp s0 s1) = 0) rfl rfl rfl c21 ?_
    refine zA_push rfl rfl zkk7 ?_
    cases H
    exact zA_ret rfl (zret_Z (by decide))
def zm291_2082 (k16 : zq → zq → zq → zq → zq → Int32 → zH → zRs Int32) (x0 : zq) (x1 : zq) (x2 : zq) (x3 : zq) (x4 : zq) (x5 : Int32) (h : zH) : zRs Int32 :=
  zai x0 (x5 + (1 : Int32)) h fun p21 i22 j23 =>
  zb2 (zm285 x1 (zi h p21 i22 j23) x3 h) fun x29 h28 =>
  zai x0 (x5 + (1 : Int32)) h28 fun p30 i31 j32 =>
  zob 12 x2 fun p37 i38 =>
  zb (zm232 x2 (zi h28 p30 i31 j32) h28) fun x42 h41 =>
  zb (zm137 x2 h41) fun x44 h43 =>
  if x44 = x29 then
    if x29 = 0 then
      zar 3 x3 (0 : Int32) h43 fun p47 i48 j49 =>
      if x42 = 0 then
        zm291_2115 k16 x0 x1 x2 x3 x4 x5 (zl h43 p47 i48 j49) (0 : Int64) h43
      else
        zm291_2115 k16 x0 x1 x2 x3 x4 x5 (zl h43 p47 i48 j49) (1 : Int64) h43
    else
      zm291_2349 k16 x0 x1 x2 x3 x4 x5 h43
  else
    some (.inl (0 : Int32), h43)
theorem zmS291_2082 {k16 : zq → zq → zq → zq → zq → Int32 → zH → zRs Int32} (hk16 : ∀ (x0 : zq) (x1 : zq) (x2 : zq) (x3 : zq) (x4 : zq) (x5 : Int32) (h : zH) (r : Int32 ⊕ Nat) (h' : zH), k16 x0 x1 x2 x3 x4 x5 h = some (r, h') → zAt 291 16 [some (zrv x0), some (zrv x1), some (zrv x2), some (zrv x3), some (zrv x4), some (zI x5), none, none, none] [] h (zoI r) h') : ∀ (x0 : zq) (x1 : zq) (x2 : zq) (x3 : zq) (x4 : zq) (x5 : Int32) (h : zH) (r : Int32 ⊕ Nat) (h' : zH), zm291_2082 k16 x0 x1 x2 x3 x4 x5 h = some (r, h') → zAt 291 2082 [some (zrv x0), some (zrv x1), some (zrv x2), some (zrv x3), some (zrv x4), some (zI x5), none, none, none] [] h (zoI r) h' := by
  intro x0 x1 x2 x3 x4 x5 h r h' H
  unfold zm291_2082 at H
  refine zA_aldn rfl rfl rfl ?_
  refine zA_aldn rfl rfl rfl ?_
  refine zA_ld rfl rfl rfl ?_
  refine zA_push rfl rfl zkk5 ?_
  refine zA_st (st' := [zI (x5 + (1 : Int32)), zrv x0, zrv x1]) rfl rfl rfl rfl ?_
  obtain ⟨p21, i22, j23, e24, c25, c26, e27, H⟩ := zai_e H
  refine zA_ial rfl rfl e24 c25 c26 e27 ?_
  refine zA_aldn rfl rfl rfl ?_
  obtain ⟨x29, h28, C, H⟩ := zb2_e H
  refine zA_callV (as := [zrv x1, zI (zi h p21 i22 j23), zrv x3]) (st' := []) rfl rfl rfl rfl rfl (zmE285 _ _ _) rfl (zmS285 C) ?_
  refine zA_ist2 rfl rfl rfl (zset1 (L' := [some (zrv x0), some (zrv x1), some (zrv x2), some (zrv x3), some (zrv x4), some (zI x5), some (zI x29), none, none]) rfl rfl (zpcV rfl rfl)) ?_
  refine zA_aldn rfl rfl rfl ?_
  refine zA_aldn rfl rfl rfl ?_
  refine zA_ld rfl rfl rfl ?_
  refine zA_push rfl rfl zkk5 ?_
  refine zA_st (st' := [zI (x5 + (1 : Int32)), zrv x0, zrv x2]) rfl rfl rfl rfl ?_
  obtain ⟨p30, i31, j32, e33, c34, c35, e36, H⟩ := zai_e H
  refine zA_ial rfl rfl e33 c34 c35 e36 ?_
  obtain ⟨p37, i38, e39, c40, H⟩ := zob_e H
  rcases zb_e H with ⟨x42, h41, C, H⟩ | ⟨E, h41, C, H⟩
  · refine zA_callV (as := [zrv x2, zI (zi h28 p30 i31 j32)]) (st' := []) rfl rfl rfl (zrcv_Q e39 c40) rfl (zmE232 _ _) rfl (zmS232 C) ?_
    refine zA_ist2 rfl rfl rfl (zset1 (L' := [some (zrv x0), some (zrv x1), some (zrv x2), some (zrv x3), some (zrv x4), some (zI x5), some (zI x29), some (zI x42), none]) rfl rfl (zpcV rfl rfl)) ?_
    refine zA_aldn rfl rfl rfl ?_
    rcases zb_e H with ⟨x44, h43, C, H⟩ | ⟨E, h43, C, H⟩
    · refine zA_callV (as := [zrv x2]) (st' := []) rfl rfl rfl (zrcv_Q e39 c40) rfl (zmE137 _) rfl (zmS137 C) ?_
      refine zA_ld rfl rfl rfl ?_
      rcases zite_e H with ⟨c45, H⟩ | ⟨c45, H⟩
      · refine zA_brT (c := x44 = x29) rfl rfl rfl c45 ?_
        refine zA_ld rfl rfl rfl ?_
        rcases zite_e H with ⟨c46, H⟩ | ⟨c46, H⟩
        · refine zA_brF' (c := x29 = 0) rfl rfl rfl c46 ?_
          refine zA_aldn rfl rfl rfl ?_
          refine zA_push rfl rfl zkk7 ?_
          obtain ⟨p47, i48, j49, e50, c51, c52, e53, H⟩ := zar_e H
          refine zA_lal rfl rfl e50 c51 c52 e53 ?_
          refine zA_ld rfl rfl rfl ?_
          rcases zite_e H with ⟨c54, H⟩ | ⟨c54, H⟩
          · refine zA_brT (c := x42 = 0) rfl rfl rfl c54 ?_
            refine zA_tr (L := [some (zrv x0), some (zrv x1), some (zrv x2), some (zrv x3), some (zrv x4), some (zI x5), none, none, none]) rfl rfl ?_
            refine zA_push rfl rfl zkk24 ?_
            exact zA_tr (L := [some (zrv x0), some (zrv x1), some (zrv x2), some (zrv x3), some (zrv x4), some (zI x5), none, none, none]) rfl rfl (zmS291_2115 hk16 _ _ _ _ _ _ _ _ _ _ _ H)
          · refine zA_brF (c := x42 = 0) rfl rfl rfl c54 ?_
            refine zA_push rfl rfl zkk25 ?_
            refine zA_go rfl rfl ?_
            exact zA_tr (L := [some (zrv x0), some (zrv x1), some (zrv x2), some (zrv x3), some (zrv x4), some (zI x5), none, none, none]) rfl rfl (zmS291_2115 hk16 _ _ _ _ _ _ _ _ _ _ _ H)
        · refine zA_brT' (c := x29 = 0) rfl rfl rfl c46 ?_
          refine zA_tr (L := [some (zrv x0), some (zrv x1), some (zrv x2), some (zrv x3), some (zrv x4), some (zI x5), none, none, none]) rfl rfl ?_
          refine zA_go rfl rfl ?_
          exact zA_tr (L := [some (zrv x0), some (zrv x1), some (zrv x2), some (zrv x3), some (zrv x4), some (zI x5), none, none, none]) rfl rfl (zmS291_2349 hk16 _ _ _ _ _ _ _ _ _ H)
      · refine zA_brF (c := x44 = x29) rfl rfl rfl c45 ?_
        refine zA_push rfl rfl zkk7 ?_
        cases H
        exact zA_ret rfl (zret_Z (by decide))
    · cases H
      exact zA_callX (as := [zrv x2]) (st' := []) rfl rfl (zrcv_Q e39 c40) rfl (zmE137 _) rfl rfl rfl (zmS137 C)
  · cases H
    exact zA_callX (as := [zrv x2, zI (zi h28 p30 i31 j32)]) (st' := []) rfl rfl (zrcv_Q e39 c40) rfl (zmE232 _ _) rfl rfl rfl (zmS232 C)
def zm291_2052 (k16 : zq → zq → zq → zq → zq → Int32 → zH → zRs Int32) (x0 : zq) (x1 : zq) (x2 : zq) (x3 : zq) (x4 : zq) (x5 : Int32) (x6 : Int32) (s0 : zq) (s1 : Int32) (s2 : Int32) (s3 : Int32) (h : zH) : zRs Int32 :=
  zai x0 (x5 + (4 : Int32)) h fun p21 i22 j23 =>
  zai x0 (x5 + (5 : Int32)) h fun p28 i29 j30 =>
  zob 12 s0 fun p35 i36 =>
  zb (zm231 s0 s1 s2 s3 (zi h p21 i22 j23) (zi h p28 i29 j30) h) fun x40 h39 =>
  zob 12 x2 fun p41 i42 =>
  zb (zm137 x2 h39) fun x46 h45 =>
  if x46 = x6 then
    if x6 = 0 then
      zar 3 x3 (0 : Int32) h45 fun p49 i50 j51 =>
      if (lg_cmp (zl h45 p49 i50 j51) (x40.toInt64)) = 0 then
        zm291_2349 k16 x0 x1 x2 x3 x4 x5 h45
      else
        some (.inl (0 : Int32), h45)
    else
      zm291_2349 k16 x0 x1 x2 x3 x4 x5 h45
  else
    some (.inl (0 : Int32), h45)
theorem zmS291_2052 {k16 : zq → zq → zq → zq → zq → Int32 → zH → zRs Int32} (hk16 : ∀ (x0 : zq) (x1 : zq) (x2 : zq) (x3 : zq) (x4 : zq) (x5 : Int32) (h : zH) (r : Int32 ⊕ Nat) (h' : zH), k16 x0 x1 x2 x3 x4 x5 h = some (r, h') → zAt 291 16 [some (zrv x0), some (zrv x1), some (zrv x2), some (zrv x3), some (zrv x4), some (zI x5), none, none, none] [] h (zoI r) h') : ∀ (x0 : zq) (x1 : zq) (x2 : zq) (x3 : zq) (x4 : zq) (x5 : Int32) (x6 : Int32) (s0 : zq) (s1 : Int32) (s2 : Int32) (s3 : Int32) (h : zH) (r : Int32 ⊕ Nat) (h' : zH), zm291_2052 k16 x0 x1 x2 x3 x4 x5 x6 s0 s1 s2 s3 h = some (r, h') → zAt 291 2052 [some (zrv x0), some (zrv x1), some (zrv x2), some (zrv x3), some (zrv x4), some (zI x5), some (zI x6), none, none] [zI s3, zI s2, zI s1, zrv s0] h (zoI r) h' := by
  intro x0 x1 x2 x3 x4 x5 x6 s0 s1 s2 s3 h r h' H
  unfold zm291_2052 at H
  refine zA_aldn rfl rfl rfl ?_
  refine zA_ld rfl rfl rfl ?_
  refine zA_push rfl rfl zkk9 ?_
  refine zA_st (st' := [zI (x5 + (4 : Int32)), zrv x0, zI s3, zI s2, zI s1, zrv s0]) rfl rfl rfl rfl ?_
  obtain ⟨p21, i22, j23, e24, c25, c26, e27, H⟩ := zai_e H
  refine zA_ial rfl rfl e24 c25 c26 e27 ?_
  refine zA_aldn rfl rfl rfl ?_
  refine zA_ld rfl rfl rfl ?_
  refine zA_push rfl rfl zkk20 ?_
  refine zA_st (st' := [zI (x5 + (5 : Int32)), zrv x0, zI (zi h p21 i22 j23), zI s3, zI s2, zI s1, zrv s0]) rfl rfl rfl rfl ?_
  obtain ⟨p28, i29, j30, e31, c32, c33, e34, H⟩ := zai_e H
  refine zA_ial rfl rfl e31 c32 c33 e34 ?_
  obtain ⟨p35, i36, e37, c38, H⟩ := zob_e H
  rcases zb_e H with ⟨x40, h39, C, H⟩ | ⟨E, h39, C, H⟩
  · refine zA_callV (as := [zrv s0, zI s1, zI s2, zI s3, zI (zi h p21 i22 j23), zI (zi h p28 i29 j30)]) (st' := []) rfl rfl rfl (zrcv_Q e37 c38) rfl (zmE231 _ _ _ _ _ _) rfl (zmS231 C) ?_
    refine zA_ist2 rfl rfl rfl (zset1 (L' := [some (zrv x0), some (zrv x1), some (zrv x2), some (zrv x3), some (zrv x4), some (zI x5), some (zI x6), some (zI x40), none]) rfl rfl (zpcV rfl rfl)) ?_
    refine zA_aldn rfl rfl rfl ?_
    obtain ⟨p41, i42, e43, c44, H⟩ := zob_e H
    rcases zb_e H with ⟨x46, h45, C, H⟩ | ⟨E, h45, C, H⟩
    · refine zA_callV (as := [zrv x2]) (st' := []) rfl rfl rfl (zrcv_Q e43 c44) rfl (zmE137 _) rfl (zmS137 C) ?_
      refine zA_ld rfl rfl rfl ?_
      rcases zite_e H with ⟨c47, H⟩ | ⟨c47, H⟩
      · refine zA_brT (c := x46 = x6) rfl rfl rfl c47 ?_
        refine zA_ld rfl rfl rfl ?_
        rcases zite_e H with ⟨c48, H⟩ | ⟨c48, H⟩
        · refine zA_brF' (c := x6 = 0) rfl rfl rfl c48 ?_
          refine zA_aldn rfl rfl rfl ?_
          refine zA_push rfl rfl zkk7 ?_
          obtain ⟨p49, i50, j51, e52, c53, c54, e55, H⟩ := zar_e H
          refine zA_lal rfl rfl e52 c53 c54 e55 ?_
          refine zA_ld rfl rfl rfl ?_
          refine zA_st (st' := [zJ (x40.toInt64), zJ (zl h45 p49 i50 j51)]) rfl rfl rfl rfl ?_
          refine zA_st (st' := [zI (lg_cmp (zl h45 p49 i50 j51) (x40.toInt64))]) rfl rfl rfl rfl ?_
          rcases zite_e H with ⟨c56, H⟩ | ⟨c56, H⟩
          · refine zA_brT (c := (lg_cmp (zl h45 p49 i50 j51) (x40.toInt64)) = 0) rfl rfl rfl c56 ?_
            refine zA_tr (L := [some (zrv x0), some (zrv x1), some (zrv x2), some (zrv x3), some (zrv x4), some (zI x5), none, none, none]) rfl rfl ?_
            refine zA_go rfl rfl ?_
            exact zA_tr (L := [some (zrv x0), some (zrv x1), some (zrv x2), some (zrv x3), some (zrv x4), some (zI x5), none, none, none]) rfl rfl (zmS291_2349 hk16 _ _ _ _ _ _ _ _ _ H)
          · refine zA_brF (c := (lg_cmp (zl h45 p49 i50 j51) (x40.toInt64)) = 0) rfl rfl rfl c56 ?_
            refine zA_push rfl rfl zkk7 ?_
            cases H
            exact zA_ret rfl (zret_Z (by decide))
        · refine zA_brT' (c := x6 = 0) rfl rfl rfl c48 ?_
          refine zA_tr (L := [some (zrv x0), some (zrv x1), some (zrv x2), some (zrv x3), some (zrv x4), some (zI x5), none, none, none]) rfl rfl ?_
          refine zA_go rfl rfl ?_
          exact zA_tr (L := [some (zrv x0), some (zrv x1), some (zrv x2), some (zrv x3), some (zrv x4), some (zI x5), none, none, none]) rfl rfl (zmS291_2349 hk16 _ _ _ _ _ _ _ _ _ H)
      · refine zA_brF (c := x46 = x6) rfl rfl rfl c47 ?_
        refine zA_push rfl rfl zkk7 ?_
        cases H
        exact zA_ret rfl (zret_Z (by decide))
    · cases H
      exact zA_callX (as := [zrv x2]) (st' := []) rfl rfl (zrcv_Q e43 c44) rfl (zmE137 _) rfl rfl rfl (zmS137 C)
  · cases H
    exact zA_callX (as := [zrv s0, zI s1, zI s2, zI s3, zI (zi h p21 i22 j23), zI (zi h p28 i29 j30)]) (st' := []) rfl rfl (zrcv_Q e37 c38) rfl (zmE231 _ _ _ _ _ _) rfl rfl rfl (zmS231 C)
def zm291_2019 (k16 : zq → zq → zq → zq → zq → Int32 → zH → zRs Int32) (x0 : zq) (x1 : zq) (x2 : zq) (x3 : zq) (x4 : zq) (x5 : Int32) (s0 : zq) (s1 : Int32) (s2 : Int32) (s3 : Int32) (h : zH) : zRs Int32 :=
  zai x0 (x5 + (4 : Int32)) h fun p21 i22 j23 =>
  zai x0 (x5 + (5 : Int32)) h fun p28 i29 j30 =>
  zb2 (zm284 s0 s1 s2 s3 (zi h p21 i22 j23) (zi h p28 i29 j30) x3 h) fun x36 h35 =>
  zai x0 (x5 + (1 : Int32)) h35 fun p37 i38 j39 =>
  zai x0 (x5 + (2 : Int32)) h35 fun p44 i45 j46 =>
  zai x0 (x5 + (3 : Int32)) h35 fun p51 i52 j53 =>
  if (zi h35 p51 i52 j53) = 0 then
    zm291_2052 k16 x0 x1 x2 x3 x4 x5 x36 x2 (zi h35 p37 i38 j39) (zi h35 p44 i45 j46) (0 : Int32) h35
  else
    zm291_2052 k16 x0 x1 x2 x3 x4 x5 x36 x2 (zi h35 p37 i38 j39) (zi h35 p44 i45 j46) (1 : Int32) h35
theorem zmS291_2019 {k16 : zq → zq → zq → zq → zq → Int32 → zH → zRs Int32} (hk16 : ∀ (x0 : zq) (x1 : zq) (x2 : zq) (x3 : zq) (x4 : zq) (x5 : Int32) (h : zH) (r : Int32 ⊕ Nat) (h' : zH), k16 x0 x1 x2 x3 x4 x5 h = some (r, h') → zAt 291 16 [some (zrv x0), some (zrv x1), some (zrv x2), some (zrv x3), some (zrv x4), some (zI x5), none, none, none] [] h (zoI r) h') : ∀ (x0 : zq) (x1 : zq) (x2 : zq) (x3 : zq) (x4 : zq) (x5 : Int32) (s0 : zq) (s1 : Int32) (s2 : Int32) (s3 : Int32) (h : zH) (r : Int32 ⊕ Nat) (h' : zH), zm291_2019 k16 x0 x1 x2 x3 x4 x5 s0 s1 s2 s3 h = some (r, h') → zAt 291 2019 [some (zrv x0), some (zrv x1), some (zrv x2), some (zrv x3), some (zrv x4), some (zI x5), none, none, none] [zI s3, zI s2, zI s1, zrv s0] h (zoI r) h' := by
  intro x0 x1 x2 x3 x4 x5 s0 s1 s2 s3 h r h' H
  unfold zm291_2019 at H
  refine zA_aldn rfl rfl rfl ?_
  refine zA_ld rfl rfl rfl ?_
  refine zA_push rfl rfl zkk9 ?_
  refine zA_st (st' := [zI (x5 + (4 : Int32)), zrv x0, zI s3, zI s2, zI s1, zrv s0]) rfl rfl rfl rfl ?_
  obtain ⟨p21, i22, j23, e24, c25, c26, e27, H⟩ := zai_e H
  refine zA_ial rfl rfl e24 c25 c26 e27 ?_
  refine zA_aldn rfl rfl rfl ?_
  refine zA_ld rfl rfl rfl ?_
  refine zA_push rfl rfl zkk20 ?_
  refine zA_st (st' := [zI (x5 + (5 : Int32)), zrv x0, zI (zi h p21 i22 j23), zI s3, zI s2, zI s1, zrv s0]) rfl rfl rfl rfl ?_
  obtain ⟨p28, i29, j30, e31, c32, c33, e34, H⟩ := zai_e H
  refine zA_ial rfl rfl e31 c32 c33 e34 ?_
  refine zA_aldn rfl rfl rfl ?_
  obtain ⟨x36, h35, C, H⟩ := zb2_e H
  refine zA_callV (as := [zrv s0, zI s1, zI s2, zI s3, zI (zi h p21 i22 j23), zI (zi h p28 i29 j30), zrv x3]) (st' := []) rfl rfl rfl rfl rfl (zmE284 _ _ _ _ _ _ _) rfl (zmS284 C) ?_
  refine zA_ist2 rfl rfl rfl (zset1 (L' := [some (zrv x0), some (zrv x1), some (zrv x2), some (zrv x3), some (zrv x4), some (zI x5), some (zI x36), none, none]) rfl rfl (zpcV rfl rfl)) ?_
  refine zA_aldn rfl rfl rfl ?_
  refine zA_aldn rfl rfl rfl ?_
  refine zA_ld rfl rfl rfl ?_
  refine zA_push rfl rfl zkk5 ?_
  refine zA_st (st' := [zI (x5 + (1 : Int32)), zrv x0, zrv x2]) rfl rfl rfl rfl ?_
  obtain ⟨p37, i38, j39, e40, c41, c42, e43, H⟩ := zai_e H
  refine zA_ial rfl rfl e40 c41 c42 e43 ?_
  refine zA_aldn rfl rfl rfl ?_
  refine zA_ld rfl rfl rfl ?_
  refine zA_push rfl rfl zkk23 ?_
  refine zA_st (st' := [zI (x5 + (2 : Int32)), zrv x0, zI (zi h35 p37 i38 j39), zrv x2]) rfl rfl rfl rfl ?_
  obtain ⟨p44, i45, j46, e47, c48, c49, e50, H⟩ := zai_e H
  refine zA_ial rfl rfl e47 c48 c49 e50 ?_
  refine zA_aldn rfl rfl rfl ?_
  refine zA_ld rfl rfl rfl ?_
  refine zA_push rfl rfl zkk3 ?_
  refine zA_st (st' := [zI (x5 + (3 : Int32)), zrv x0, zI (zi h35 p44 i45 j46), zI (zi h35 p37 i38 j39), zrv x2]) rfl rfl rfl rfl ?_
  obtain ⟨p51, i52, j53, e54, c55, c56, e57, H⟩ := zai_e H
  refine zA_ial rfl rfl e54 c55 c56 e57 ?_
  rcases zite_e H with ⟨c58, H⟩ | ⟨c58, H⟩
  · refine zA_brT (c := (zi h35 p51 i52 j53) = 0) rfl rfl rfl c58 ?_
    refine zA_push rfl rfl zkk7 ?_
    exact zA_tr (L := [some (zrv x0), some (zrv x1), some (zrv x2), some (zrv x3), some (zrv x4), some (zI x5), some (zI x36), none, none]) rfl rfl (zmS291_2052 hk16 _ _ _ _ _ _ _ _ _ _ _ _ _ _ H)
  · refine zA_brF (c := (zi h35 p51 i52 j53) = 0) rfl rfl rfl c58 ?_
    refine zA_push rfl rfl zkk5 ?_
    refine zA_go rfl rfl ?_
    exact zA_tr (L := [some (zrv x0), some (zrv x1), some (zrv x2), some (zrv x3), some (zrv x4), some (zI x5), some (zI x36), none, none]) rfl rfl (zmS291_2052 hk16 _ _ _ _ _ _ _ _ _ _ _ _ _ _ H)
def zm291_1999 (k16 : zq → zq → zq → zq → zq → Int32 → zH → zRs Int32) (x0 : zq) (x1 : zq) (x2 : zq) (x3 : zq) (x4 : zq) (x5 : Int32) (h : zH) : zRs Int32 :=
  zai x0 (x5 + (1 : Int32)) h fun p21 i22 j23 =>
  zai x0 (x5 + (2 : Int32)) h fun p28 i29 j30 =>
  zai x0 (x5 + (3 : Int32)) h fun p35 i36 j37 =>
  if (zi h p35 i36 j37) = 0 then
    zm291_2019 k16 x0 x1 x2 x3 x4 x5 x1 (zi h p21 i22 j23) (zi h p28 i29 j30) (0 : Int32) h
  else
    zm291_2019 k16 x0 x1 x2 x3 x4 x5 x1 (zi h p21 i22 j23) (zi h p28 i29 j30) (1 : Int32) h
theorem zmS291_1999 {k16 : zq → zq → zq → zq → zq → Int32 → zH → zRs Int32} (hk16 : ∀ (x0 : zq) (x1 : zq) (x2 : zq) (x3 : zq) (x4 : zq) (x5 : Int32) (h : zH) (r : Int32 ⊕ Nat) (h' : zH), k16 x0 x1 x2 x3 x4 x5 h = some (r, h') → zAt 291 16 [some (zrv x0), some (zrv x1), some (zrv x2), some (zrv x3), some (zrv x4), some (zI x5), none, none, none] [] h (zoI r) h') : ∀ (x0 : zq) (x1 : zq) (x2 : zq) (x3 : zq) (x4 : zq) (x5 : Int32) (h : zH) (r : Int32 ⊕ Nat) (h' : zH), zm291_1999 k16 x0 x1 x2 x3 x4 x5 h = some (r, h') → zAt 291 1999 [some (zrv x0), some (zrv x1), some (zrv x2), some (zrv x3), some (zrv x4), some (zI x5), none, none, none] [] h (zoI r) h' := by
  intro x0 x1 x2 x3 x4 x5 h r h' H
  unfold zm291_1999 at H
  refine zA_aldn rfl rfl rfl ?_
  refine zA_aldn rfl rfl rfl ?_
  refine zA_ld rfl rfl rfl ?_
  refine zA_push rfl rfl zkk5 ?_
  refine zA_st (st' := [zI (x5 + (1 : Int32)), zrv x0, zrv x1]) rfl rfl rfl rfl ?_
  obtain ⟨p21, i22, j23, e24, c25, c26, e27, H⟩ := zai_e H
  refine zA_ial rfl rfl e24 c25 c26 e27 ?_
  refine zA_aldn rfl rfl rfl ?_
  refine zA_ld rfl rfl rfl ?_
  refine zA_push rfl rfl zkk23 ?_
  refine zA_st (st' := [zI (x5 + (2 : Int32)), zrv x0, zI (zi h p21 i22 j23), zrv x1]) rfl rfl rfl rfl ?_
  obtain ⟨p28, i29, j30, e31, c32, c33, e34, H⟩ := zai_e H
  refine zA_ial rfl rfl e31 c32 c33 e34 ?_
  refine zA_aldn rfl rfl rfl ?_
  refine zA_ld rfl rfl rfl ?_
  refine zA_push rfl rfl zkk3 ?_
  refine zA_st (st' := [zI (x5 + (3 : Int32)), zrv x0, zI (zi h p28 i29 j30), zI (zi h p21 i22 j23), zrv x1]) rfl rfl rfl rfl ?_
  obtain ⟨p35, i36, j37, e38, c39, c40, e41, H⟩ := zai_e H
  refine zA_ial rfl rfl e38 c39 c40 e41 ?_
  rcases zite_e H with ⟨c42, H⟩ | ⟨c42, H⟩
  · refine zA_brT (c := (zi h p35 i36 j37) = 0) rfl rfl rfl c42 ?_
    refine zA_push rfl rfl zkk7 ?_
    exact zA_tr (L := [some (zrv x0), some (zrv x1), some (zrv x2), some (zrv x3), some (zrv x4), some (zI x5), none, none, none]) rfl rfl (zmS291_2019 hk16 _ _ _ _ _ _ _ _ _ _ _ _ _ H)
  · refine zA_brF (c := (zi h p35 i36 j37) = 0) rfl rfl rfl c42 ?_
    refine zA_push rfl rfl zkk5 ?_
    refine zA_go rfl rfl ?_
    exact zA_tr (L := [some (zrv x0), some (zrv x1), some (zrv x2), some (zrv x3), some (zrv x4), some (zI x5), none, none, none]) rfl rfl (zmS291_2019 hk16 _ _ _ _ _ _ _ _ _ _ _ _ _ H)
def zm291_1957 (k16 : zq → zq → zq → zq → zq → Int32 → zH → zRs Int32) (x0 : zq) (x1 : zq) (x2 : zq) (x3 : zq) (x4 : zq) (x5 : Int32) (h : zH) : zRs Int32 :=
  zai x0 (x5 + (1 : Int32)) h fun p21 i22 j23 =>
  zai x0 (x5 + (2 : Int32)) h fun p28 i29 j30 =>
  zai x0 (x5 + (3 : Int32)) h fun p35 i36 j37 =>
  zb2 (zm283 x1 (zi h p21 i22 j23) (zi h p28 i29 j30) (zi h p35 i36 j37) h) fun x43 h42 =>
  zai x0 (x5 + (1 : Int32)) h42 fun p44 i45 j46 =>
  zai x0 (x5 + (2 : Int32)) h42 fun p51 i52 j53 =>
  zai x0 (x5 + (3 : Int32)) h42 fun p58 i59 j60 =>
  zob 12 x2 fun p65 i66 =>
  zb (zm230 x2 (zi h42 p44 i45 j46) (zi h42 p51 i52 j53) (zi h42 p58 i59 j60) h42) fun _ h69 =>
  zb (zm137 x2 h69) fun x71 h70 =>
  if x71 = x43 then
    zm291_2349 k16 x0 x1 x2 x3 x4 x5 h70
  else
    some (.inl (0 : Int32), h70)
theorem zmS291_1957 {k16 : zq → zq → zq → zq → zq → Int32 → zH → zRs Int32} (hk16 : ∀ (x0 : zq) (x1 : zq) (x2 : zq) (x3 : zq) (x4 : zq) (x5 : Int32) (h : zH) (r : Int32 ⊕ Nat) (h' : zH), k16 x0 x1 x2 x3 x4 x5 h = some (r, h') → zAt 291 16 [some (zrv x0), some (zrv x1), some (zrv x2), some (zrv x3), some (zrv x4), some (zI x5), none, none, none] [] h (zoI r) h') : ∀ (x0 : zq) (x1 : zq) (x2 : zq) (x3 : zq) (x4 : zq) (x5 : Int32) (h : zH) (r : Int32 ⊕ Nat) (h' : zH), zm291_1957 k16 x0 x1 x2 x3 x4 x5 h = some (r, h') → zAt 291 1957 [some (zrv x0), some (zrv x1), some (zrv x2), some (zrv x3), some (zrv x4), some (zI x5), none, none, none] [] h (zoI r) h' := by
  intro x0 x1 x2 x3 x4 x5 h r h' H
  unfold zm291_1957 at H
  refine zA_aldn rfl rfl rfl ?_
  refine zA_aldn rfl rfl rfl ?_
  refine zA_ld rfl rfl rfl ?_
  refine zA_push rfl rfl zkk5 ?_
  refine zA_st (st' := [zI (x5 + (1 : Int32)), zrv x0, zrv x1]) rfl rfl rfl rfl ?_
  obtain ⟨p21, i22, j23, e24, c25, c26, e27, H⟩ := zai_e H
  refine zA_ial rfl rfl e24 c25 c26 e27 ?_
  refine zA_aldn rfl rfl rfl ?_
  refine zA_ld rfl rfl rfl ?_
  refine zA_push rfl rfl zkk23 ?_
  refine zA_st (st' := [zI (x5 + (2 : Int32)), zrv x0, zI (zi h p21 i22 j23), zrv x1]) rfl rfl rfl rfl ?_
  obtain ⟨p28, i29, j30, e31, c32, c33, e34, H⟩ := zai_e H
  refine zA_ial rfl rfl e31 c32 c33 e34 ?_
  refine zA_aldn rfl rfl rfl ?_
  refine zA_ld rfl rfl rfl ?_
  refine zA_push rfl rfl zkk3 ?_
  refine zA_st (st' := [zI (x5 + (3 : Int32)), zrv x0, zI (zi h p28 i29 j30), zI (zi h p21 i22 j23), zrv x1]) rfl rfl rfl rfl ?_
  obtain ⟨p35, i36, j37, e38, c39, c40, e41, H⟩ := zai_e H
  refine zA_ial rfl rfl e38 c39 c40 e41 ?_
  obtain ⟨x43, h42, C, H⟩ := zb2_e H
  refine zA_callV (as := [zrv x1, zI (zi h p21 i22 j23), zI (zi h p28 i29 j30), zI (zi h p35 i36 j37)]) (st' := []) rfl rfl rfl rfl rfl (zmE283 _ _ _ _) rfl (zmS283 C) ?_
  refine zA_ist2 rfl rfl rfl (zset1 (L' := [some (zrv x0), some (zrv x1), some (zrv x2), some (zrv x3), some (zrv x4), some (zI x5), some (zI x43), none, none]) rfl rfl (zpcV rfl rfl)) ?_
  refine zA_aldn rfl rfl rfl ?_
  refine zA_aldn rfl rfl rfl ?_
  refine zA_ld rfl rfl rfl ?_
  refine zA_push rfl rfl zkk5 ?_
  refine zA_st (st' := [zI (x5 + (1 : Int32)), zrv x0, zrv x2]) rfl rfl rfl rfl ?_
  obtain ⟨p44, i45, j46, e47, c48, c49, e50, H⟩ := zai_e H
  refine zA_ial rfl rfl e47 c48 c49 e50 ?_
  refine zA_aldn rfl rfl rfl ?_
  refine zA_ld rfl rfl rfl ?_
  refine zA_push rfl rfl zkk23 ?_
  refine zA_st (st' := [zI (x5 + (2 : Int32)), zrv x0, zI (zi h42 p44 i45 j46), zrv x2]) rfl rfl rfl rfl ?_
  obtain ⟨p51, i52, j53, e54, c55, c56, e57, H⟩ := zai_e H
  refine zA_ial rfl rfl e54 c55 c56 e57 ?_
  refine zA_aldn rfl rfl rfl ?_
  refine zA_ld rfl rfl rfl ?_
  refine zA_push rfl rfl zkk3 ?_
  refine zA_st (st' := [zI (x5 + (3 : Int32)), zrv x0, zI (zi h42 p51 i52 j53), zI (zi h42 p44 i45 j46), zrv x2]) rfl rfl rfl rfl ?_
  obtain ⟨p58, i59, j60, e61, c62, c63, e64, H⟩ := zai_e H
  refine zA_ial rfl rfl e61 c62 c63 e64 ?_
  obtain ⟨p65, i66, e67, c68, H⟩ := zob_e H
  rcases zb_e H with ⟨u73, h69, C, H⟩ | ⟨E, h69, C, H⟩
  · refine zA_callU (as := [zrv x2, zI (zi h42 p44 i45 j46), zI (zi h42 p51 i52 j53), zI (zi h42 p58 i59 j60)]) (st' := []) rfl rfl rfl (zrcv_Q e67 c68) rfl (zmE230 _ _ _ _) rfl (zmS230 C) ?_
    refine zA_aldn rfl rfl rfl ?_
    rcases zb_e H with ⟨x71, h70, C, H⟩ | ⟨E, h70, C, H⟩
    · refine zA_callV (as := [zrv x2]) (st' := []) rfl rfl rfl (zrcv_Q e67 c68) rfl (zmE137 _) rfl (zmS137 C) ?_
      refine zA_ld rfl rfl rfl ?_
      rcases zite_e H with ⟨c72, H⟩ | ⟨c72, H⟩
      · refine zA_brT (c := x71 = x43) rfl rfl rfl c72 ?_
        refine zA_tr (L := [some (zrv x0), some (zrv x1), some (zrv x2), some (zrv x3), some (zrv x4), some (zI x5), none, none, none]) rfl rfl ?_
        refine zA_go rfl rfl ?_
        exact zA_tr (L := [some (zrv x0), some (zrv x1), some (zrv x2), some (zrv x3), some (zrv x4), some (zI x5), none, none, none]) rfl rfl (zmS291_2349 hk16 _ _ _ _ _ _ _ _ _ H)
      · refine zA_brF (c := x71 = x43) rfl rfl rfl c72 ?_
        refine zA_push rfl rfl zkk7 ?_
        cases H
        exact zA_ret rfl (zret_Z (by decide))
    · cases H
      exact zA_callX (as := [zrv x2]) (st' := []) rfl rfl (zrcv_Q e67 c68) rfl (zmE137 _) rfl rfl rfl (zmS137 C)
  · cases H
    exact zA_callX (as := [zrv x2, zI (zi h42 p44 i45 j46), zI (zi h42 p51 i52 j53), zI (zi h42 p58 i59 j60)]) (st' := []) rfl rfl (zrcv_Q e67 c68) rfl (zmE230 _ _ _ _) rfl rfl rfl (zmS230 C)
def zm291_1922 (k16 : zq → zq → zq → zq → zq → Int32 → zH → zRs Int32) (x0 : zq) (x1 : zq) (x2 : zq) (x3 : zq) (x4 : zq) (x5 : Int32) (h : zH) : zRs Int32 :=
  zai x0 (x5 + (1 : Int32)) h fun p21 i22 j23 =>
  zb2 (zm282 x1 (zi h p21 i22 j23) x3 h) fun x29 h28 =>
  zai x0 (x5 + (1 : Int32)) h28 fun p30 i31 j32 =>
  zob 12 x2 fun p37 i38 =>
  zb (zm228 x2 (zi h28 p30 i31 j32) h28) fun x42 h41 =>
  zb (zm137 x2 h41) fun x44 h43 =>
  if x44 = x29 then
    if x29 = 0 then
      zar 3 x3 (0 : Int32) h43 fun p47 i48 j49 =>
      if (lg_cmp (zl h43 p47 i48 j49) (x42.toInt64)) = 0 then
        zm291_2349 k16 x0 x1 x2 x3 x4 x5 h43
      else
        some (.inl (0 : Int32), h43)
    else
      zm291_2349 k16 x0 x1 x2 x3 x4 x5 h43
  else
    some (.inl (0 : Int32), h43)
theorem zmS291_1922 {k16 : zq → zq → zq → zq → zq → Int32 → zH → zRs Int32} (hk16 : ∀ (x0 : zq) (x1 : zq) (x2 : zq) (x3 : zq) (x4 : zq) (x5 : Int32) (h : zH) (r : Int32 ⊕ Nat) (h' : zH), k16 x0 x1 x2 x3 x4 x5 h = some (r, h') → zAt 291 16 [some (zrv x0), some (zrv x1), some (zrv x2), some (zrv x3), some (zrv x4), some (zI x5), none, none, none] [] h (zoI r) h') : ∀ (x0 : zq) (x1 : zq) (x2 : zq) (x3 : zq) (x4 : zq) (x5 : Int32) (h : zH) (r : Int32 ⊕ Nat) (h' : zH), zm291_1922 k16 x0 x1 x2 x3 x4 x5 h = some (r, h') → zAt 291 1922 [some (zrv x0), some (zrv x1), some (zrv x2), some (zrv x3), some (zrv x4), some (zI x5), none, none, none] [] h (zoI r) h' := by
  intro x0 x1 x2 x3 x4 x5 h r h' H
  unfold zm291_1922 at H
  refine zA_aldn rfl rfl rfl ?_
  refine zA_aldn rfl rfl rfl ?_
  refine zA_ld rfl rfl rfl ?_
  refine zA_push rfl rfl zkk5 ?_
  refine zA_st (st' := [zI (x5 + (1 : Int32)), zrv x0, zrv x1]) rfl rfl rfl rfl ?_
  obtain ⟨p21, i22, j23, e24, c25, c26, e27, H⟩ := zai_e H
  refine zA_ial rfl rfl e24 c25 c26 e27 ?_
  refine zA_aldn rfl rfl rfl ?_
  obtain ⟨x29, h28, C, H⟩ := zb2_e H
  refine zA_callV (as := [zrv x1, zI (zi h p21 i22 j23), zrv x3]) (st' := []) rfl rfl rfl rfl rfl (zmE282 _ _ _) rfl (zmS282 C) ?_
  refine zA_ist2 rfl rfl rfl (zset1 (L' := [some (zrv x0), some (zrv x1), some (zrv x2), some (zrv x3), some (zrv x4), some (zI x5), some (zI x29), none, none]) rfl rfl (zpcV rfl rfl)) ?_
  refine zA_aldn rfl rfl rfl ?_
  refine zA_aldn rfl rfl rfl ?_
  refine zA_ld rfl rfl rfl ?_
  refine zA_push rfl rfl zkk5 ?_
  refine zA_st (st' := [zI (x5 + (1 : Int32)), zrv x0, zrv x2]) rfl rfl rfl rfl ?_
  obtain ⟨p30, i31, j32, e33, c34, c35, e36, H⟩ := zai_e H
  refine zA_ial rfl rfl e33 c34 c35 e36 ?_
  obtain ⟨p37, i38, e39, c40, H⟩ := zob_e H
  rcases zb_e H with ⟨x42, h41, C, H⟩ | ⟨E, h41, C, H⟩
  · refine zA_callV (as := [zrv x2, zI (zi h28 p30 i31 j32)]) (st' := []) rfl rfl rfl (zrcv_Q e39 c40) rfl (zmE228 _ _) rfl (zmS228 C) ?_
    refine zA_ist2 rfl rfl rfl (zset1 (L' := [some (zrv x0), some (zrv x1), some (zrv x2), some (zrv x3), some (zrv x4), some (zI x5), some (zI x29), some (zI x42), none]) rfl rfl (zpcV rfl rfl)) ?_
    refine zA_aldn rfl rfl rfl ?_
    rcases zb_e H with ⟨x44, h43, C, H⟩ | ⟨E, h43, C, H⟩
    · refine zA_callV (as := [zrv x2]) (st' := []) rfl rfl rfl (zrcv_Q e39 c40) rfl (zmE137 _) rfl (zmS137 C) ?_
      refine zA_ld rfl rfl rfl ?_
      rcases zite_e H with ⟨c45, H⟩ | ⟨c45, H⟩
      · refine zA_brT (c := x44 = x29) rfl rfl rfl c45 ?_
        refine zA_ld rfl rfl rfl ?_
        rcases zite_e H with ⟨c46, H⟩ | ⟨c46, H⟩
        · refine zA_brF' (c := x29 = 0) rfl rfl rfl c46 ?_
          refine zA_aldn rfl rfl rfl ?_
          refine zA_push rfl rfl zkk7 ?_
          obtain ⟨p47, i48, j49, e50, c51, c52, e53, H⟩ := zar_e H
          refine zA_lal rfl rfl e50 c51 c52 e53 ?_
          refine zA_ld rfl rfl rfl ?_
          refine zA_st (st' := [zJ (x42.toInt64), zJ (zl h43 p47 i48 j49)]) rfl rfl rfl rfl ?_
          refine zA_st (st' := [zI (lg_cmp (zl h43 p47 i48 j49) (x42.toInt64))]) rfl rfl rfl rfl ?_
          rcases zite_e H with ⟨c54, H⟩ | ⟨c54, H⟩
          · refine zA_brT (c := (lg_cmp (zl h43 p47 i48 j49) (x42.toInt64)) = 0) rfl rfl rfl c54 ?_
            refine zA_tr (L := [some (zrv x0), some (zrv x1), some (zrv x2), some (zrv x3), some (zrv x4), some (zI x5), none, none, none]) rfl rfl ?_
            refine zA_go rfl rfl ?_
            exact zA_tr (L := [some (zrv x0), some (zrv x1), some (zrv x2), some (zrv x3), some (zrv x4), some (zI x5), none, none, none]) rfl rfl (zmS291_2349 hk16 _ _ _ _ _ _ _ _ _ H)
          · refine zA_brF (c := (lg_cmp (zl h43 p47 i48 j49) (x42.toInt64)) = 0) rfl rfl rfl c54 ?_
            refine zA_push rfl rfl zkk7 ?_
            cases H
            exact zA_ret rfl (zret_Z (by decide))
        · refine zA_brT' (c := x29 = 0) rfl rfl rfl c46 ?_
          refine zA_tr (L := [some (zrv x0), some (zrv x1), some (zrv x2), some (zrv x3), some (zrv x4), some (zI x5), none, none, none]) rfl rfl ?_
          refine zA_go rfl rfl ?_
          exact zA_tr (L := [some (zrv x0), some (zrv x1), some (zrv x2), some (zrv x3), some (zrv x4), some (zI x5), none, none, none]) rfl rfl (zmS291_2349 hk16 _ _ _ _ _ _ _ _ _ H)
      · refine zA_brF (c := x44 = x29) rfl rfl rfl c45 ?_
        refine zA_push rfl rfl zkk7 ?_
        cases H
        exact zA_ret rfl (zret_Z (by decide))
    · cases H
      exact zA_callX (as := [zrv x2]) (st' := []) rfl rfl (zrcv_Q e39 c40) rfl (zmE137 _) rfl rfl rfl (zmS137 C)
  · cases H
    exact zA_callX (as := [zrv x2, zI (zi h28 p30 i31 j32)]) (st' := []) rfl rfl (zrcv_Q e39 c40) rfl (zmE228 _ _) rfl rfl rfl (zmS228 C)
def zm291_1877 (k16 : zq → zq → zq → zq → zq → Int32 → zH → zRs Int32) (x0 : zq) (x1 : zq) (x2 : zq) (x3 : zq) (x4 : zq) (x5 : Int32) (h : zH) : zRs Int32 :=
  zai x0 (x5 + (1 : Int32)) h fun p21 i22 j23 =>
  zai x0 (x5 + (2 : Int32)) h fun p28 i29 j30 =>
  zb2 (zm281 x1 (zi h p21 i22 j23) (zi h p28 i29 j30) x3 h) fun x36 h35 =>
  zai x0 (x5 + (1 : Int32)) h35 fun p37 i38 j39 =>
  zai x0 (x5 + (2 : Int32)) h35 fun p44 i45 j46 =>
  zob 12 x2 fun p51 i52 =>
  zb (zm227 x2 (zi h35 p37 i38 j39) (zi h35 p44 i45 j46) h35) fun x56 h55 =>
  zb (zm137 x2 h55) fun x58 h57 =>
  if x58 = x36 then
    if x36 = 0 then
      zar 3 x3 (0 : Int32) h57 fun p61 i62 j63 =>
      if (lg_cmp (zl h57 p61 i62 j63) (x56.toInt64)) = 0 then
        zm291_2349 k16 x0 x1 x2 x3 x4 x5 h57
      else
        some (.inl (0 : Int32), h57)
    else
      zm291_2349 k16 x0 x1 x2 x3 x4 x5 h57
  else
    some (.inl (0 : Int32), h57)
theorem zmS291_1877 {k16 : zq → zq → zq → zq → zq → Int32 → zH → zRs Int32} (hk16 : ∀ (x0 : zq) (x1 : zq) (x2 : zq) (x3 : zq) (x4 : zq) (x5 : Int32) (h : zH) (r : Int32 ⊕ Nat) (h' : zH), k16 x0 x1 x2 x3 x4 x5 h = some (r, h') → zAt 291 16 [some (zrv x0), some (zrv x1), some (zrv x2), some (zrv x3), some (zrv x4), some (zI x5), none, none, none] [] h (zoI r) h') : ∀ (x0 : zq) (x1 : zq) (x2 : zq) (x3 : zq) (x4 : zq) (x5 : Int32) (h : zH) (r : Int32 ⊕ Nat) (h' : zH), zm291_1877 k16 x0 x1 x2 x3 x4 x5 h = some (r, h') → zAt 291 1877 [some (zrv x0), some (zrv x1), some (zrv x2), some (zrv x3), some (zrv x4), some (zI x5), none, none, none] [] h (zoI r) h' := by
  intro x0 x1 x2 x3 x4 x5 h r h' H
  unfold zm291_1877 at H
  refine zA_aldn rfl rfl rfl ?_
  refine zA_aldn rfl rfl rfl ?_
  refine zA_ld rfl rfl rfl ?_
  refine zA_push rfl rfl zkk5 ?_
  refine zA_st (st' := [zI (x5 + (1 : Int32)), zrv x0, zrv x1]) rfl rfl rfl rfl ?_
  obtain ⟨p21, i22, j23, e24, c25, c26, e27, H⟩ := zai_e H
  refine zA_ial rfl rfl e24 c25 c26 e27 ?_
  refine zA_aldn rfl rfl rfl ?_
  refine zA_ld rfl rfl rfl ?_
  refine zA_push rfl rfl zkk23 ?_
  refine zA_st (st' := [zI (x5 + (2 : Int32)), zrv x0, zI (zi h p21 i22 j23), zrv x1]) rfl rfl rfl rfl ?_
  obtain ⟨p28, i29, j30, e31, c32, c33, e34, H⟩ := zai_e H
  refine zA_ial rfl rfl e31 c32 c33 e34 ?_
  refine zA_aldn rfl rfl rfl ?_
  obtain ⟨x36, h35, C, H⟩ := zb2_e H
  refine zA_callV (as := [zrv x1, zI (zi h p21 i22 j23), zI (zi h p28 i29 j30), zrv x3]) (st' := []) rfl rfl rfl rfl rfl (zmE281 _ _ _ _) rfl (zmS281 C) ?_
  refine zA_ist2 rfl rfl rfl (zset1 (L' := [some (zrv x0), some (zrv x1), some (zrv x2), some (zrv x3), some (zrv x4), some (zI x5), some (zI x36), none, none]) rfl rfl (zpcV rfl rfl)) ?_
  refine zA_aldn rfl rfl rfl ?_
  refine zA_aldn rfl rfl rfl ?_
  refine zA_ld rfl rfl rfl ?_
  refine zA_push rfl rfl zkk5 ?_
  refine zA_st (st' := [zI (x5 + (1 : Int32)), zrv x0, zrv x2]) rfl rfl rfl rfl ?_
  obtain ⟨p37, i38, j39, e40, c41, c42, e43, H⟩ := zai_e H
  refine zA_ial rfl rfl e40 c41 c42 e43 ?_
  refine zA_aldn rfl rfl rfl ?_
  refine zA_ld rfl rfl rfl ?_
  refine zA_push rfl rfl zkk23 ?_
  refine zA_st (st' := [zI (x5 + (2 : Int32)), zrv x0, zI (zi h35 p37 i38 j39), zrv x2]) rfl rfl rfl rfl ?_
  obtain ⟨p44, i45, j46, e47, c48, c49, e50, H⟩ := zai_e H
  refine zA_ial rfl rfl e47 c48 c49 e50 ?_
  obtain ⟨p51, i52, e53, c54, H⟩ := zob_e H
  rcases zb_e H with ⟨x56, h55, C, H⟩ | ⟨E, h55, C, H⟩
  · refine zA_callV (as := [zrv x2, zI (zi h35 p37 i38 j39), zI (zi h35 p44 i45 j46)]) (st' := []) rfl rfl rfl (zrcv_Q e53 c54) rfl (zmE227 _ _ _) rfl (zmS227 C) ?_
    refine zA_ist2 rfl rfl rfl (zset1 (L' := [some (zrv x0), some (zrv x1), some (zrv x2), some (zrv x3), some (zrv x4), some (zI x5), some (zI x36), some (zI x56), none]) rfl rfl (zpcV rfl rfl)) ?_
    refine zA_aldn rfl rfl rfl ?_
    rcases zb_e H with ⟨x58, h57, C, H⟩ | ⟨E, h57, C, H⟩
    · refine zA_callV (as := [zrv x2]) (st' := []) rfl rfl rfl (zrcv_Q e53 c54) rfl (zmE137 _) rfl (zmS137 C) ?_
      refine zA_ld rfl rfl rfl ?_
      rcases zite_e H with ⟨c59, H⟩ | ⟨c59, H⟩
      · refine zA_brT (c := x58 = x36) rfl rfl rfl c59 ?_
        refine zA_ld rfl rfl rfl ?_
        rcases zite_e H with ⟨c60, H⟩ | ⟨c60, H⟩
        · refine zA_brF' (c := x36 = 0) rfl rfl rfl c60 ?_
          refine zA_aldn rfl rfl rfl ?_
          refine zA_push rfl rfl zkk7 ?_
          obtain ⟨p61, i62, j63, e64, c65, c66, e67, H⟩ := zar_e H
          refine zA_lal rfl rfl e64 c65 c66 e67 ?_
          refine zA_ld rfl rfl rfl ?_
          refine zA_st (st' := [zJ (x56.toInt64), zJ (zl h57 p61 i62 j63)]) rfl rfl rfl rfl ?_
          refine zA_st (st' := [zI (lg_cmp (zl h57 p61 i62 j63) (x56.toInt64))]) rfl rfl rfl rfl ?_
          rcases zite_e H with ⟨c68, H⟩ | ⟨c68, H⟩
          · refine zA_brT (c := (lg_cmp (zl h57 p61 i62 j63) (x56.toInt64)) = 0) rfl rfl rfl c68 ?_
            refine zA_tr (L := [some (zrv x0), some (zrv x1), some (zrv x2), some (zrv x3), some (zrv x4), some (zI x5), none, none, none]) rfl rfl ?_
            refine zA_go rfl rfl ?_
            exact zA_tr (L := [some (zrv x0), some (zrv x1), some (zrv x2), some (zrv x3), some (zrv x4), some (zI x5), none, none, none]) rfl rfl (zmS291_2349 hk16 _ _ _ _ _ _ _ _ _ H)
          · refine zA_brF (c := (lg_cmp (zl h57 p61 i62 j63) (x56.toInt64)) = 0) rfl rfl rfl c68 ?_
            refine zA_push rfl rfl zkk7 ?_
            cases H
            exact zA_ret rfl (zret_Z (by decide))
        · refine zA_brT' (c := x36 = 0) rfl rfl rfl c60 ?_
          refine zA_tr (L := [some (zrv x0), some (zrv x1), some (zrv x2), some (zrv x3), some (zrv x4), some (zI x5), none, none, none]) rfl rfl ?_
          refine zA_go rfl rfl ?_
          exact zA_tr (L := [some (zrv x0), some (zrv x1), some (zrv x2), some (zrv x3), some (zrv x4), some (zI x5), none, none, none]) rfl rfl (zmS291_2349 hk16 _ _ _ _ _ _ _ _ _ H)
      · refine zA_brF (c := x58 = x36) rfl rfl rfl c59 ?_
        refine zA_push rfl rfl zkk7 ?_
        cases H
        exact zA_ret rfl (zret_Z (by decide))
    · cases H
      exact zA_callX (as := [zrv x2]) (st' := []) rfl rfl (zrcv_Q e53 c54) rfl (zmE137 _) rfl rfl rfl (zmS137 C)
  · cases H
    exact zA_callX (as := [zrv x2, zI (zi h35 p37 i38 j39), zI (zi h35 p44 i45 j46)]) (st' := []) rfl rfl (zrcv_Q e53 c54) rfl (zmE227 _ _ _) rfl rfl rfl (zmS227 C)
def zm291_1842 (k16 : zq → zq → zq → zq → zq → Int32 → zH → zRs Int32) (x0 : zq) (x1 : zq) (x2 : zq) (x3 : zq) (x4 : zq) (x5 : Int32) (h : zH) : zRs Int32 :=
  zai x0 (x5 + (1 : Int32)) h fun p21 i22 j23 =>
  zb2 (zm280 x1 (zi h p21 i22 j23) x3 h) fun x29 h28 =>
  zai x0 (x5 + (1 : Int32)) h28 fun p30 i31 j32 =>
  zob 12 x2 fun p37 i38 =>
  zb (zm225 x2 (zi h28 p30 i31 j32) h28) fun x42 h41 =>
  zb (zm137 x2 h41) fun x44 h43 =>
  if x44 = x29 then
    if x29 = 0 then
      zar 3 x3 (0 : Int32) h43 fun p47 i48 j49 =>
      if (lg_cmp (zl h43 p47 i48 j49) (x42.toInt64)) = 0 then
        zm291_2349 k16 x0 x1 x2 x3 x4 x5 h43
      else
        some (.inl (0 : Int32), h43)
    else
      zm291_2349 k16 x0 x1 x2 x3 x4 x5 h43
  else
    some (.inl (0 : Int32), h43)
theorem zmS291_1842 {k16 : zq → zq → zq → zq → zq → Int32 → zH → zRs Int32} (hk16 : ∀ (x0 : zq) (x1 : zq) (x2 : zq) (x3 : zq) (x4 : zq) (x5 : Int32) (h : zH) (r : Int32 ⊕ Nat) (h' : zH), k16 x0 x1 x2 x3 x4 x5 h = some (r, h') → zAt 291 16 [some (zrv x0), some (zrv x1), some (zrv x2), some (zrv x3), some (zrv x4), some (zI x5), none, none, none] [] h (zoI r) h') : ∀ (x0 : zq) (x1 : zq) (x2 : zq) (x3 : zq) (x4 : zq) (x5 : Int32) (h : zH) (r : Int32 ⊕ Nat) (h' : zH), zm291_1842 k16 x0 x1 x2 x3 x4 x5 h = some (r, h') → zAt 291 1842 [some (zrv x0), some (zrv x1), some (zrv x2), some (zrv x3), some (zrv x4), some (zI x5), none, none, none] [] h (zoI r) h' := by
  intro x0 x1 x2 x3 x4 x5 h r h' H
  unfold zm291_1842 at H
  refine zA_aldn rfl rfl rfl ?_
  refine zA_aldn rfl rfl rfl ?_
  refine zA_ld rfl rfl rfl ?_
  refine zA_push rfl rfl zkk5 ?_
  refine zA_st (st' := [zI (x5 + (1 : Int32)), zrv x0, zrv x1]) rfl rfl rfl rfl ?_
  obtain ⟨p21, i22, j23, e24, c25, c26, e27, H⟩ := zai_e H
  refine zA_ial rfl rfl e24 c25 c26 e27 ?_
  refine zA_aldn rfl rfl rfl ?_
  obtain ⟨x29, h28, C, H⟩ := zb2_e H
  refine zA_callV (as := [zrv x1, zI (zi h p21 i22 j23), zrv x3]) (st' := []) rfl rfl rfl rfl rfl (zmE280 _ _ _) rfl (zmS280 C) ?_
  refine zA_ist2 rfl rfl rfl (zset1 (L' := [some (zrv x0), some (zrv x1), some (zrv x2), some (zrv x3), some (zrv x4), some (zI x5), some (zI x29), none, none]) rfl rfl (zpcV rfl rfl)) ?_
  refine zA_aldn rfl rfl rfl ?_
  refine zA_aldn rfl rfl rfl ?_
  refine zA_ld rfl rfl rfl ?_
  refine zA_push rfl rfl zkk5 ?_
  refine zA_st (st' := [zI (x5 + (1 : Int32)), zrv x0, zrv x2]) rfl rfl rfl rfl ?_
  obtain ⟨p30, i31, j32, e33, c34, c35, e36, H⟩ := zai_e H
  refine zA_ial rfl rfl e33 c34 c35 e36 ?_
  obtain ⟨p37, i38, e39, c40, H⟩ := zob_e H
  rcases zb_e H with ⟨x42, h41, C, H⟩ | ⟨E, h41, C, H⟩
  · refine zA_callV (as := [zrv x2, zI (zi h28 p30 i31 j32)]) (st' := []) rfl rfl rfl (zrcv_Q e39 c40) rfl (zmE225 _ _) rfl (zmS225 C) ?_
    refine zA_ist2 rfl rfl rfl (zset1 (L' := [some (zrv x0), some (zrv x1), some (zrv x2), some (zrv x3), some (zrv x4), some (zI x5), some (zI x29), some (zI x42), none]) rfl rfl (zpcV rfl rfl)) ?_
    refine zA_aldn rfl rfl rfl ?_
    rcases zb_e H with ⟨x44, h43, C, H⟩ | ⟨E, h43, C, H⟩
    · refine zA_callV (as := [zrv x2]) (st' := []) rfl rfl rfl (zrcv_Q e39 c40) rfl (zmE137 _) rfl (zmS137 C) ?_
      refine zA_ld rfl rfl rfl ?_
      rcases zite_e H with ⟨c45, H⟩ | ⟨c45, H⟩
      · refine zA_brT (c := x44 = x29) rfl rfl rfl c45 ?_
        refine zA_ld rfl rfl rfl ?_
        rcases zite_e H with ⟨c46, H⟩ | ⟨c46, H⟩
        · refine zA_brF' (c := x29 = 0) rfl rfl rfl c46 ?_
          refine zA_aldn rfl rfl rfl ?_
          refine zA_push rfl rfl zkk7 ?_
          obtain ⟨p47, i48, j49, e50, c51, c52, e53, H⟩ := zar_e H
          refine zA_lal rfl rfl e50 c51 c52 e53 ?_
          refine zA_ld rfl rfl rfl ?_
          refine zA_st (st' := [zJ (x42.toInt64), zJ (zl h43 p47 i48 j49)]) rfl rfl rfl rfl ?_
          refine zA_st (st' := [zI (lg_cmp (zl h43 p47 i48 j49) (x42.toInt64))]) rfl rfl rfl rfl ?_
          rcases zite_e H with ⟨c54, H⟩ | ⟨c54, H⟩
          · refine zA_brT (c := (lg_cmp (zl h43 p47 i48 j49) (x42.toInt64)) = 0) rfl rfl rfl c54 ?_
            refine zA_tr (L := [some (zrv x0), some (zrv x1), some (zrv x2), some (zrv x3), some (zrv x4), some (zI x5), none, none, none]) rfl rfl ?_
            refine zA_go rfl rfl ?_
            exact zA_tr (L := [some (zrv x0), some (zrv x1), some (zrv x2), some (zrv x3), some (zrv x4), some (zI x5), none, none, none]) rfl rfl (zmS291_2349 hk16 _ _ _ _ _ _ _ _ _ H)
          · refine zA_brF (c := (lg_cmp (zl h43 p47 i48 j49) (x42.toInt64)) = 0) rfl rfl rfl c54 ?_
            refine zA_push rfl rfl zkk7 ?_
            cases H
            exact zA_ret rfl (zret_Z (by decide))
        · refine zA_brT' (c := x29 = 0) rfl rfl rfl c46 ?_
          refine zA_tr (L := [some (zrv x0), some (zrv x1), some (zrv x2), some (zrv x3), some (zrv x4), some (zI x5), none, none, none]) rfl rfl ?_
          refine zA_go rfl rfl ?_
          exact zA_tr (L := [some (zrv x0), some (zrv x1), some (zrv x2), some (zrv x3), some (zrv x4), some (zI x5), none, none, none]) rfl rfl (zmS291_2349 hk16 _ _ _ _ _ _ _ _ _ H)
      · refine zA_brF (c := x44 = x29) rfl rfl rfl c45 ?_
        refine zA_push rfl rfl zkk7 ?_
        cases H
        exact zA_ret rfl (zret_Z (by decide))
    · cases H
      exact zA_callX (as := [zrv x2]) (st' := []) rfl rfl (zrcv_Q e39 c40) rfl (zmE137 _) rfl rfl rfl (zmS137 C)
  · cases H
    exact zA_callX (as := [zrv x2, zI (zi h28 p30 i31 j32)]) (st' := []) rfl rfl (zrcv_Q e39 c40) rfl (zmE225 _ _) rfl rfl rfl (zmS225 C)
def zm291_1807 (k16 : zq → zq → zq → zq → zq → Int32 → zH → zRs Int32) (x0 : zq) (x1 : zq) (x2 : zq) (x3 : zq) (x4 : zq) (x5 : Int32) (h : zH) : zRs Int32 :=
  zai x0 (x5 + (1 : Int32)) h fun p21 i22 j23 =>
  zb2 (zm279 x1 (zi h p21 i22 j23) x3 h) fun x29 h28 =>
  zai x0 (x5 + (1 : Int32)) h28 fun p30 i31 j32 =>
  zob 12 x2 fun p37 i38 =>
  zb (zm224 x2 (zi h28 p30 i31 j32) h28) fun x42 h41 =>
  zb (zm137 x2 h41) fun x44 h43 =>
  if x44 = x29 then
    if x29 = 0 then
      zar 3 x3 (0 : Int32) h43 fun p47 i48 j49 =>
      if (lg_cmp (zl h43 p47 i48 j49) (x42.toInt64)) = 0 then
        zm291_2349 k16 x0 x1 x2 x3 x4 x5 h43
      else
        some (.inl (0 : Int32), h43)
    else
      zm291_2349 k16 x0 x1 x2 x3 x4 x5 h43
  else
    some (.inl (0 : Int32), h43)
theorem zmS291_1807 {k16 : zq → zq → zq → zq → zq → Int32 → zH → zRs Int32} (hk16 : ∀ (x0 : zq) (x1 : zq) (x2 : zq) (x3 : zq) (x4 : zq) (x5 : Int32) (h : zH) (r : Int32 ⊕ Nat) (h' : zH), k16 x0 x1 x2 x3 x4 x5 h = some (r, h') → zAt 291 16 [some (zrv x0), some (zrv x1), some (zrv x2), some (zrv x3), some (zrv x4), some (zI x5), none, none, none] [] h (zoI r) h') : ∀ (x0 : zq) (x1 : zq) (x2 : zq) (x3 : zq) (x4 : zq) (x5 : Int32) (h : zH) (r : Int32 ⊕ Nat) (h' : zH), zm291_1807 k16 x0 x1 x2 x3 x4 x5 h = some (r, h') → zAt 291 1807 [some (zrv x0), some (zrv x1), some (zrv x2), some (zrv x3), some (zrv x4), some (zI x5), none, none, none] [] h (zoI r) h' := by
  intro x0 x1 x2 x3 x4 x5 h r h' H
  unfold zm291_1807 at H
  refine zA_aldn rfl rfl rfl ?_
  refine zA_aldn rfl rfl rfl ?_
  refine zA_ld rfl rfl rfl ?_
  refine zA_push rfl rfl zkk5 ?_
  refine zA_st (st' := [zI (x5 + (1 : Int32)), zrv x0, zrv x1]) rfl rfl rfl rfl ?_
  obtain ⟨p21, i22, j23, e24, c25, c26, e27, H⟩ := zai_e H
  refine zA_ial rfl rfl e24 c25 c26 e27 ?_
  refine zA_aldn rfl rfl rfl ?_
  obtain ⟨x29, h28, C, H⟩ := zb2_e H
  refine zA_callV (as := [zrv x1, zI (zi h p21 i22 j23), zrv x3]) (st' := []) rfl rfl rfl rfl rfl (zmE279 _ _ _) rfl (zmS279 C) ?_
  refine zA_ist2 rfl rfl rfl (zset1 (L' := [some (zrv x0), some (zrv x1), some (zrv x2), some (zrv x3), some (zrv x4), some (zI x5), some (zI x29), none, none]) rfl rfl (zpcV rfl rfl)) ?_
  refine zA_aldn rfl rfl rfl ?_
  refine zA_aldn rfl rfl rfl ?_
  refine zA_ld rfl rfl rfl ?_
  refine zA_push rfl rfl zkk5 ?_
  refine zA_st (st' := [zI (x5 + (1 : Int32)), zrv x0, zrv x2]) rfl rfl rfl rfl ?_
  obtain ⟨p30, i31, j32, e33, c34, c35, e36, H⟩ := zai_e H
  refine zA_ial rfl rfl e33 c34 c35 e36 ?_
  obtain ⟨p37, i38, e39, c40, H⟩ := zob_e H
  rcases zb_e H with ⟨x42, h41, C, H⟩ | ⟨E, h41, C, H⟩
  · refine zA_callV (as := [zrv x2, zI (zi h28 p30 i31 j32)]) (st' := []) rfl rfl rfl (zrcv_Q e39 c40) rfl (zmE224 _ _) rfl (zmS224 C) ?_
    refine zA_ist2 rfl rfl rfl (zset1 (L' := [some (zrv x0), some (zrv x1), some (zrv x2), some (zrv x3), some (zrv x4), some (zI x5), some (zI x29), some (zI x42), none]) rfl rfl (zpcV rfl rfl)) ?_
    refine zA_aldn rfl rfl rfl ?_
    rcases zb_e H with ⟨x44, h43, C, H⟩ | ⟨E, h43, C, H⟩
    · refine zA_callV (as := [zrv x2]) (st' := []) rfl rfl rfl (zrcv_Q e39 c40) rfl (zmE137 _) rfl (zmS137 C) ?_
      refine zA_ld rfl rfl rfl ?_
      rcases zite_e H with ⟨c45, H⟩ | ⟨c45, H⟩
      · refine zA_brT (c := x44 = x29) rfl rfl rfl c45 ?_
        refine zA_ld rfl rfl rfl ?_
        rcases zite_e H with ⟨c46, H⟩ | ⟨c46, H⟩
        · refine zA_brF' (c := x29 = 0) rfl rfl rfl c46 ?_
          refine zA_aldn rfl rfl rfl ?_
          refine zA_push rfl rfl zkk7 ?_
          obtain ⟨p47, i48, j49, e50, c51, c52, e53, H⟩ := zar_e H
          refine zA_lal rfl rfl e50 c51 c52 e53 ?_
          refine zA_ld rfl rfl rfl ?_
          refine zA_st (st' := [zJ (x42.toInt64), zJ (zl h43 p47 i48 j49)]) rfl rfl rfl rfl ?_
          refine zA_st (st' := [zI (lg_cmp (zl h43 p47 i48 j49) (x42.toInt64))]) rfl rfl rfl rfl ?_
          rcases zite_e H with ⟨c54, H⟩ | ⟨c54, H⟩
          · refine zA_brT (c := (lg_cmp (zl h43 p47 i48 j49) (x42.toInt64)) = 0) rfl rfl rfl c54 ?_
            refine zA_tr (L := [some (zrv x0), some (zrv x1), some (zrv x2), some (zrv x3), some (zrv x4), some (zI x5), none, none, none]) rfl rfl ?_
            refine zA_go rfl rfl ?_
            exact zA_tr (L := [some (zrv x0), some (zrv x1), some (zrv x2), some (zrv x3), some (zrv x4), some (zI x5), none, none, none]) rfl rfl (zmS291_2349 hk16 _ _ _ _ _ _ _ _ _ H)
          · refine zA_brF (c := (lg_cmp (zl h43 p47 i48 j49) (x42.toInt64)) = 0) rfl rfl rfl c54 ?_
            refine zA_push rfl rfl zkk7 ?_
            cases H
            exact zA_ret rfl (zret_Z (by decide))
        · refine zA_brT' (c := x29 = 0) rfl rfl rfl c46 ?_
          refine zA_tr (L := [some (zrv x0), some (zrv x1), some (zrv x2), some (zrv x3), some (zrv x4), some (zI x5), none, none, none]) rfl rfl ?_
          refine zA_go rfl rfl ?_
          exact zA_tr (L := [some (zrv x0), some (zrv x1), some (zrv x2), some (zrv x3), some (zrv x4), some (zI x5), none, none, none]) rfl rfl (zmS291_2349 hk16 _ _ _ _ _ _ _ _ _ H)
      · refine zA_brF (c := x44 = x29) rfl rfl rfl c45 ?_
        refine zA_push rfl rfl zkk7 ?_
        cases H
        exact zA_ret rfl (zret_Z (by decide))
    · cases H
      exact zA_callX (as := [zrv x2]) (st' := []) rfl rfl (zrcv_Q e39 c40) rfl (zmE137 _) rfl rfl rfl (zmS137 C)
  · cases H
    exact zA_callX (as := [zrv x2, zI (zi h28 p30 i31 j32)]) (st' := []) rfl rfl (zrcv_Q e39 c40) rfl (zmE224 _ _) rfl rfl rfl (zmS224 C)
def zm291_1762 (k16 : zq → zq → zq → zq → zq → Int32 → zH → zRs Int32) (x0 : zq) (x1 : zq) (x2 : zq) (x3 : zq) (x4 : zq) (x5 : Int32) (h : zH) : zRs Int32 :=
  zai x0 (x5 + (1 : Int32)) h fun p21 i22 j23 =>
  zai x0 (x5 + (2 : Int32)) h fun p28 i29 j30 =>
  zb2 (zm278 x1 (zi h p21 i22 j23) (zi h p28 i29 j30) x3 h) fun x36 h35 =>
  zai x0 (x5 + (1 : Int32)) h35 fun p37 i38 j39 =>
  zai x0 (x5 + (2 : Int32)) h35 fun p44 i45 j46 =>
  zob 12 x2 fun p51 i52 =>
  zb (zm223 x2 (zi h35 p37 i38 j39) (zi h35 p44 i45 j46) h35) fun x56 h55 =>
  zb (zm137 x2 h55) fun x58 h57 =>
  if x58 = x36 then
    if x36 = 0 then
      zar 3 x3 (0 : Int32) h57 fun p61 i62 j63 =>
      if (lg_cmp (zl h57 p61 i62 j63) (x56.toInt64)) = 0 then
        zm291_2349 k16 x0 x1 x2 x3 x4 x5 h57
      else
        some (.inl (0 : Int32), h57)
    else
      zm291_2349 k16 x0 x1 x2 x3 x4 x5 h57
  else
    some (.inl (0 : Int32), h57)
theorem zmS291_1762 {k16 : zq → zq → zq → zq → zq → Int32 → zH → zRs Int32} (hk16 : ∀ (x0 : zq) (x1 : zq) (x2 : zq) (x3 : zq) (x4 : zq) (x5 : Int32) (h : zH) (r : Int32 ⊕ Nat) (h' : zH), k16 x0 x1 x2 x3 x4 x5 h = some (r, h') → zAt 291 16 [some (zrv x0), some (zrv x1), some (zrv x2), some (zrv x3), some (zrv x4), some (zI x5), none, none, none] [] h (zoI r) h') : ∀ (x0 : zq) (x1 : zq) (x2 : zq) (x3 : zq) (x4 : zq) (x5 : Int32) (h : zH) (r : Int32 ⊕ Nat) (h' : zH), zm291_1762 k16 x0 x1 x2 x3 x4 x5 h = some (r, h') → zAt 291 1762 [some (zrv x0), some (zrv x1), some (zrv x2), some (zrv x3), some (zrv x4), some (zI x5), none, none, none] [] h (zoI r) h' := by
  intro x0 x1 x2 x3 x4 x5 h r h' H
  unfold zm291_1762 at H
  refine zA_aldn rfl rfl rfl ?_
  refine zA_aldn rfl rfl rfl ?_
  refine zA_ld rfl rfl rfl ?_
  refine zA_push rfl rfl zkk5 ?_
  refine zA_st (st' := [zI (x5 + (1 : Int32)), zrv x0, zrv x1]) rfl rfl rfl rfl ?_
  obtain ⟨p21, i22, j23, e24, c25, c26, e27, H⟩ := zai_e H
  refine zA_ial rfl rfl e24 c25 c26 e27 ?_
  refine zA_aldn rfl rfl rfl ?_
  refine zA_ld rfl rfl rfl ?_
  refine zA_push rfl rfl zkk23 ?_
  refine zA_st (st' := [zI (x5 + (2 : Int32)), zrv x0, zI (zi h p21 i22 j23), zrv x1]) rfl rfl rfl rfl ?_
  obtain ⟨p28, i29, j30, e31, c32, c33, e34, H⟩ := zai_e H
  refine zA_ial rfl rfl e31 c32 c33 e34 ?_
  refine zA_aldn rfl rfl rfl ?_
  obtain ⟨x36, h35, C, H⟩ := zb2_e H
  refine zA_callV (as := [zrv x1, zI (zi h p21 i22 j23), zI (zi h p28 i29 j30), zrv x3]) (st' := []) rfl rfl rfl rfl rfl (zmE278 _ _ _ _) rfl (zmS278 C) ?_
  refine zA_ist2 rfl rfl rfl (zset1 (L' := [some (zrv x0), some (zrv x1), some (zrv x2), some (zrv x3), some (zrv x4), some (zI x5), some (zI x36), none, none]) rfl rfl (zpcV rfl rfl)) ?_
  refine zA_aldn rfl rfl rfl ?_
  refine zA_aldn rfl rfl rfl ?_
  refine zA_ld rfl rfl rfl ?_
  refine zA_push rfl rfl zkk5 ?_
  refine zA_st (st' := [zI (x5 + (1 : Int32)), zrv x0, zrv x2]) rfl rfl rfl rfl ?_
  obtain ⟨p37, i38, j39, e40, c41, c42, e43, H⟩ := zai_e H
  refine zA_ial rfl rfl e40 c41 c42 e43 ?_
  refine zA_aldn rfl rfl rfl ?_
  refine zA_ld rfl rfl rfl ?_
  refine zA_push rfl rfl zkk23 ?_
  refine zA_st (st' := [zI (x5 + (2 : Int32)), zrv x0, zI (zi h35 p37 i38 j39), zrv x2]) rfl rfl rfl rfl ?_
  obtain ⟨p44, i45, j46, e47, c48, c49, e50, H⟩ := zai_e H
  refine zA_ial rfl rfl e47 c48 c49 e50 ?_
  obtain ⟨p51, i52, e53, c54, H⟩ := zob_e H
  rcases zb_e H with ⟨x56, h55, C, H⟩ | ⟨E, h55, C, H⟩
  · refine zA_callV (as := [zrv x2, zI (zi h35 p37 i38 j39), zI (zi h35 p44 i45 j46)]) (st' := []) rfl rfl rfl (zrcv_Q e53 c54) rfl (zmE223 _ _ _) rfl (zmS223 C) ?_
    refine zA_ist2 rfl rfl rfl (zset1 (L' := [some (zrv x0), some (zrv x1), some (zrv x2), some (zrv x3), some (zrv x4), some (zI x5), some (zI x36), some (zI x56), none]) rfl rfl (zpcV rfl rfl)) ?_
    refine zA_aldn rfl rfl rfl ?_
    rcases zb_e H with ⟨x58, h57, C, H⟩ | ⟨E, h57, C, H⟩
    · refine zA_callV (as := [zrv x2]) (st' := []) rfl rfl rfl (zrcv_Q e53 c54) rfl (zmE137 _) rfl (zmS137 C) ?_
      refine zA_ld rfl rfl rfl ?_
      rcases zite_e H with ⟨c59, H⟩ | ⟨c59, H⟩
      · refine zA_brT (c := x58 = x36) rfl rfl rfl c59 ?_
        refine zA_ld rfl rfl rfl ?_
        rcases zite_e H with ⟨c60, H⟩ | ⟨c60, H⟩
        · refine zA_brF' (c := x36 = 0) rfl rfl rfl c60 ?_
          refine zA_aldn rfl rfl rfl ?_
          refine zA_push rfl rfl zkk7 ?_
          obtain ⟨p61, i62, j63, e64, c65, c66, e67, H⟩ := zar_e H
          refine zA_lal rfl rfl e64 c65 c66 e67 ?_
          refine zA_ld rfl rfl rfl ?_
          refine zA_st (st' := [zJ (x56.toInt64), zJ (zl h57 p61 i62 j63)]) rfl rfl rfl rfl ?_
          refine zA_st (st' := [zI (lg_cmp (zl h57 p61 i62 j63) (x56.toInt64))]) rfl rfl rfl rfl ?_
          rcases zite_e H with ⟨c68, H⟩ | ⟨c68, H⟩
          · refine zA_brT (c := (lg_cmp (zl h57 p61 i62 j63) (x56.toInt64)) = 0) rfl rfl rfl c68 ?_
            refine zA_tr (L := [some (zrv x0), some (zrv x1), some (zrv x2), some (zrv x3), some (zrv x4), some (zI x5), none, none, none]) rfl rfl ?_
            refine zA_go rfl rfl ?_
            exact zA_tr (L := [some (zrv x0), some (zrv x1), some (zrv x2), some (zrv x3), some (zrv x4), some (zI x5), none, none, none]) rfl rfl (zmS291_2349 hk16 _ _ _ _ _ _ _ _ _ H)
          · refine zA_brF (c := (lg_cmp (zl h57 p61 i62 j63) (x56.toInt64)) = 0) rfl rfl rfl c68 ?_
            refine zA_push rfl rfl zkk7 ?_
            cases H
            exact zA_ret rfl (zret_Z (by decide))
        · refine zA_brT' (c := x36 = 0) rfl rfl rfl c60 ?_
          refine zA_tr (L := [some (zrv x0), some (zrv x1), some (zrv x2), some (zrv x3), some (zrv x4), some (zI x5), none, none, none]) rfl rfl ?_
          refine zA_go rfl rfl ?_
          exact zA_tr (L := [some (zrv x0), some (zrv x1), some (zrv x2), some (zrv x3), some (zrv x4), some (zI x5), none, none, none]) rfl rfl (zmS291_2349 hk16 _ _ _ _ _ _ _ _ _ H)
      · refine zA_brF (c := x58 = x36) rfl rfl rfl c59 ?_
        refine zA_push rfl rfl zkk7 ?_
        cases H
        exact zA_ret rfl (zret_Z (by decide))
    · cases H
      exact zA_callX (as := [zrv x2]) (st' := []) rfl rfl (zrcv_Q e53 c54) rfl (zmE137 _) rfl rfl rfl (zmS137 C)
  · cases H
    exact zA_callX (as := [zrv x2, zI (zi h35 p37 i38 j39), zI (zi h35 p44 i45 j46)]) (st' := []) rfl rfl (zrcv_Q e53 c54) rfl (zmE223 _ _ _) rfl rfl rfl (zmS223 C)
def zm291_1757 (k16 : zq → zq → zq → zq → zq → Int32 → zH → zRs Int32) (x0 : zq) (x1 : zq) (x2 : zq) (x3 : zq) (x4 : zq) (x5 : Int32) (s0 : Int64) (s1 : Int64) (h : zH) : zRs Int32 :=
  if (lg_cmp s0 s1) = 0 then
    zm291_2349 k16 x0 x1 x2 x3 x4 x5 h
  else
    some (.inl (0 : Int32), h)
theorem zmS291_1757 {k16 : zq → zq → zq → zq → zq → Int32 → zH → zRs Int32} (hk16 : ∀ (x0 : zq) (x1 : zq) (x2 : zq) (x3 : zq) (x4 : zq) (x5 : Int32) (h : zH) (r : Int32 ⊕ Nat) (h' : zH), k16 x0 x1 x2 x3 x4 x5 h = some (r, h') → zAt 291 16 [some (zrv x0), some (zrv x1), some (zrv x2), some (zrv x3), some (zrv x4), some (zI x5), none, none, none] [] h (zoI r) h') : ∀ (x0 : zq) (x1 : zq) (x2 : zq) (x3 : zq) (x4 : zq) (x5 : Int32) (s0 : Int64) (s1 : Int64) (h : zH) (r : Int32 ⊕ Nat) (h' : zH), zm291_1757 k16 x0 x1 x2 x3 x4 x5 s0 s1 h = some (r, h') → zAt 291 1757 [some (zrv x0), some (zrv x1), some (zrv x2), some (zrv x3), some (zrv x4), some (zI x5), none, none, none] [zJ s1, zJ s0] h (zoI r) h' := by
  intro x0 x1 x2 x3 x4 x5 s0 s1 h r h' H
  unfold zm291_1757 at H
  refine zA_st (st' := [zI (lg_cmp s0 s1)]) rfl rfl rfl rfl ?_
  rcases zite_e H with ⟨c21, H⟩ | ⟨c21, H⟩
  · refine zA_brT (c := (lg_cmp s0 s1) = 0) rfl rfl rfl c21 ?_
    refine zA_go rfl rfl ?_
    exact zA_tr (L := [some (zrv x0), some (zrv x1), some (zrv x2), some (zrv x3), some (zrv x4), some (zI x5), none, none, none]) rfl rfl (zmS291_2349 hk16 _ _ _ _ _ _ _ _ _ H)
  · refine zA_brF (c := (lg_cmp s0 s1) = 0) rfl rfl rfl c21 ?_
    refine zA_push rfl rfl zkk7 ?_
    cases H
    exact zA_ret rfl (zret_Z (by decide))
def zm291_1714 (k16 : zq → zq → zq → zq → zq → Int32 → zH → zRs Int32) (x0 : zq) (x1 : zq) (x2 : zq) (x3 : zq) (x4 : zq) (x5 : Int32) (h : zH) : zRs Int32 :=
  zai x0 (x5 + (1 : Int32)) h fun p21 i22 j23 =>
  zai x0 (x5 + (2 : Int32)) h fun p28 i29 j30 =>
  zb2 (zm277 x1 (zi h p21 i22 j23) (zi h p28 i29 j30) x3 h) fun x36 h35 =>
  zai x0 (x5 + (1 : Int32)) h35 fun p37 i38 j39 =>
  zai x0 (x5 + (2 : Int32)) h35 fun p44 i45 j46 =>
  zob 12 x2 fun p51 i52 =>
  zb (zm222 x2 (zi h35 p37 i38 j39) (zi h35 p44 i45 j46) h35) fun x56 h55 =>
  zb (zm137 x2 h55) fun x58 h57 =>
  if x58 = x36 then
    if x36 = 0 then
      zar 3 x3 (0 : Int32) h57 fun p61 i62 j63 =>
      if x56 = 0 then
        zm291_1757 k16 x0 x1 x2 x3 x4 x5 (zl h57 p61 i62 j63) (0 : Int64) h57
      else
        zm291_1757 k16 x0 x1 x2 x3 x4 x5 (zl h57 p61 i62 j63) (1 : Int64) h57
    else
      zm291_2349 k16 x0 x1 x2 x3 x4 x5 h57
  else
    some (.inl (0 : Int32), h57)
theorem zmS291_1714 {k16 : zq → zq → zq → zq → zq → Int32 → zH → zRs Int32} (hk16 : ∀ (x0 : zq) (x1 : zq) (x2 : zq) (x3 : zq) (x4 : zq) (x5 : Int32) (h : zH) (r : Int32 ⊕ Nat) (h' : zH), k16 x0 x1 x2 x3 x4 x5 h = some (r, h') → zAt 291 16 [some (zrv x0), some (zrv x1), some (zrv x2), some (zrv x3), some (zrv x4), some (zI x5), none, none, none] [] h (zoI r) h') : ∀ (x0 : zq) (x1 : zq) (x2 : zq) (x3 : zq) (x4 : zq) (x5 : Int32) (h : zH) (r : Int32 ⊕ Nat) (h' : zH), zm291_1714 k16 x0 x1 x2 x3 x4 x5 h = some (r, h') → zAt 291 1714 [some (zrv x0), some (zrv x1), some (zrv x2), some (zrv x3), some (zrv x4), some (zI x5), none, none, none] [] h (zoI r) h' := by
  intro x0 x1 x2 x3 x4 x5 h r h' H
  unfold zm291_1714 at H
  refine zA_aldn rfl rfl rfl ?_
  refine zA_aldn rfl rfl rfl ?_
  refine zA_ld rfl rfl rfl ?_
  refine zA_push rfl rfl zkk5 ?_
  refine zA_st (st' := [zI (x5 + (1 : Int32)), zrv x0, zrv x1]) rfl rfl rfl rfl ?_
  obtain ⟨p21, i22, j23, e24, c25, c26, e27, H⟩ := zai_e H
  refine zA_ial rfl rfl e24 c25 c26 e27 ?_
  refine zA_aldn rfl rfl rfl ?_
  refine zA_ld rfl rfl rfl ?_
  refine zA_push rfl rfl zkk23 ?_
  refine zA_st (st' := [zI (x5 + (2 : Int32)), zrv x0, zI (zi h p21 i22 j23), zrv x1]) rfl rfl rfl rfl ?_
  obtain ⟨p28, i29, j30, e31, c32, c33, e34, H⟩ := zai_e H
  refine zA_ial rfl rfl e31 c32 c33 e34 ?_
  refine zA_aldn rfl rfl rfl ?_
  obtain ⟨x36, h35, C, H⟩ := zb2_e H
  refine zA_callV (as := [zrv x1, zI (zi h p21 i22 j23), zI (zi h p28 i29 j30), zrv x3]) (st' := []) rfl rfl rfl rfl rfl (zmE277 _ _ _ _) rfl (zmS277 C) ?_
  refine zA_ist2 rfl rfl rfl (zset1 (L' := [some (zrv x0), some (zrv x1), some (zrv x2), some (zrv x3), some (zrv x4), some (zI x5), some (zI x36), none, none]) rfl rfl (zpcV rfl rfl)) ?_
  refine zA_aldn rfl rfl rfl ?_
  refine zA_aldn rfl rfl rfl ?_
  refine zA_ld rfl rfl rfl ?_
  refine zA_push rfl rfl zkk5 ?_
  refine zA_st (st' := [zI (x5 + (1 : Int32)), zrv x0, zrv x2]) rfl rfl rfl rfl ?_
  obtain ⟨p37, i38, j39, e40, c41, c42, e43, H⟩ := zai_e H
  refine zA_ial rfl rfl e40 c41 c42 e43 ?_
  refine zA_aldn rfl rfl rfl ?_
  refine zA_ld rfl rfl rfl ?_
  refine zA_push rfl rfl zkk23 ?_
  refine zA_st (st' := [zI (x5 + (2 : Int32)), zrv x0, zI (zi h35 p37 i38 j39), zrv x2]) rfl rfl rfl rfl ?_
  obtain ⟨p44, i45, j46, e47, c48, c49, e50, H⟩ := zai_e H
  refine zA_ial rfl rfl e47 c48 c49 e50 ?_
  obtain ⟨p51, i52, e53, c54, H⟩ := zob_e H
  rcases zb_e H with ⟨x56, h55, C, H⟩ | ⟨E, h55, C, H⟩
  · refine zA_callV (as := [zrv x2, zI (zi h35 p37 i38 j39), zI (zi h35 p44 i45 j46)]) (st' := []) rfl rfl rfl (zrcv_Q e53 c54) rfl (zmE222 _ _ _) rfl (zmS222 C) ?_
    refine zA_ist2 rfl rfl rfl (zset1 (L' := [some (zrv x0), some (zrv x1), some (zrv x2), some (zrv x3), some (zrv x4), some (zI x5), some (zI x36), some (zI x56), none]) rfl rfl (zpcV rfl rfl)) ?_
    refine zA_aldn rfl rfl rfl ?_
    rcases zb_e H with ⟨x58, h57, C, H⟩ | ⟨E, h57, C, H⟩
    · refine zA_callV (as := [zrv x2]) (st' := []) rfl rfl rfl (zrcv_Q e53 c54) rfl (zmE137 _) rfl (zmS137 C) ?_
      refine zA_ld rfl rfl rfl ?_
      rcases zite_e H with ⟨c59, H⟩ | ⟨c59, H⟩
      · refine zA_brT (c := x58 = x36) rfl rfl rfl c59 ?_
        refine zA_ld rfl rfl rfl ?_
        rcases zite_e H with ⟨c60, H⟩ | ⟨c60, H⟩
        · refine zA_brF' (c := x36 = 0) rfl rfl rfl c60 ?_
          refine zA_aldn rfl rfl rfl ?_
          refine zA_push rfl rfl zkk7 ?_
          obtain ⟨p61, i62, j63, e64, c65, c66, e67, H⟩ := zar_e H
          refine zA_lal rfl rfl e64 c65 c66 e67 ?_
          refine zA_ld rfl rfl rfl ?_
          rcases zite_e H with ⟨c68, H⟩ | ⟨c68, H⟩
          · refine zA_brT (c := x56 = 0) rfl rfl rfl c68 ?_
            refine zA_tr (L := [some (zrv x0), some (zrv x1), some (zrv x2), some (zrv x3), some (zrv x4), some (zI x5), none, none, none]) rfl rfl ?_
            refine zA_push rfl rfl zkk24 ?_
            exact zA_tr (L := [some (zrv x0), some (zrv x1), some (zrv x2), some (zrv x3), some (zrv x4), some (zI x5), none, none, none]) rfl rfl (zmS291_1757 hk16 _ _ _ _ _ _ _ _ _ _ _ H)
          · refine zA_brF (c := x56 = 0) rfl rfl rfl c68 ?_
            refine zA_push rfl rfl zkk25 ?_
            refine zA_go rfl rfl ?_
            exact zA_tr (L := [some (zrv x0), some (zrv x1), some (zrv x2), some (zrv x3), some (zrv x4), some (zI x5), none, none, none]) rfl rfl (zmS291_1757 hk16 _ _ _ _ _ _ _ _ _ _ _ H)
        · refine zA_brT' (c := x36 = 0) rfl rfl rfl c60 ?_
          refine zA_tr (L := [some (zrv x0), some (zrv x1), some (zrv x2), some (zrv x3), some (zrv x4), some (zI x5), none, none, none]) rfl rfl ?_
          refine zA_go rfl rfl ?_
          exact zA_tr (L := [some (zrv x0), some (zrv x1), some (zrv x2), some (zrv x3), some (zrv x4), some (zI x5), none, none, none]) rfl rfl (zmS291_2349 hk16 _ _ _ _ _ _ _ _ _ H)
      · refine zA_brF (c := x58 = x36) rfl rfl rfl c59 ?_
        refine zA_push rfl rfl zkk7 ?_
        cases H
        exact zA_ret rfl (zret_Z (by decide))
    · cases H
      exact zA_callX (as := [zrv x2]) (st' := []) rfl rfl (zrcv_Q e53 c54) rfl (zmE137 _) rfl rfl rfl (zmS137 C)
  · cases H
    exact zA_callX (as := [zrv x2, zI (zi h35 p37 i38 j39), zI (zi h35 p44 i45 j46)]) (st' := []) rfl rfl (zrcv_Q e53 c54) rfl (zmE222 _ _ _) rfl rfl rfl (zmS222 C)
def zm291_1669 (k16 : zq → zq → zq → zq → zq → Int32 → zH → zRs Int32) (x0 : zq) (x1 : zq) (x2 : zq) (x3 : zq) (x4 : zq) (x5 : Int32) (h : zH) : zRs Int32 :=
  zai x0 (x5 + (1 : Int32)) h fun p21 i22 j23 =>
  zai x0 (x5 + (2 : Int32)) h fun p28 i29 j30 =>
  zb2 (zm276 x1 (zi h p21 i22 j23) (zi h p28 i29 j30) x3 h) fun x36 h35 =>
  zai x0 (x5 + (1 : Int32)) h35 fun p37 i38 j39 =>
  zai x0 (x5 + (2 : Int32)) h35 fun p44 i45 j46 =>
  zob 12 x2 fun p51 i52 =>
  zb (zm221 x2 (zi h35 p37 i38 j39) (zi h35 p44 i45 j46) h35) fun x56 h55 =>
  zb (zm137 x2 h55) fun x58 h57 =>
  if x58 = x36 then
    if x36 = 0 then
      zar 3 x3 (0 : Int32) h57 fun p61 i62 j63 =>
      if (lg_cmp (zl h57 p61 i62 j63) (x56.toInt64)) = 0 then
        zm291_2349 k16 x0 x1 x2 x3 x4 x5 h57
      else
        some (.inl (0 : Int32), h57)
    else
      zm291_2349 k16 x0 x1 x2 x3 x4 x5 h57
  else
    some (.inl (0 : Int32), h57)
theorem zmS291_1669 {k16 : zq → zq → zq → zq → zq → Int32 → zH → zRs Int32} (hk16 : ∀ (x0 : zq) (x1 : zq) (x2 : zq) (x3 : zq) (x4 : zq) (x5 : Int32) (h : zH) (r : Int32 ⊕ Nat) (h' : zH), k16 x0 x1 x2 x3 x4 x5 h = some (r, h') → zAt 291 16 [some (zrv x0), some (zrv x1), some (zrv x2), some (zrv x3), some (zrv x4), some (zI x5), none, none, none] [] h (zoI r) h') : ∀ (x0 : zq) (x1 : zq) (x2 : zq) (x3 : zq) (x4 : zq) (x5 : Int32) (h : zH) (r : Int32 ⊕ Nat) (h' : zH), zm291_1669 k16 x0 x1 x2 x3 x4 x5 h = some (r, h') → zAt 291 1669 [some (zrv x0), some (zrv x1), some (zrv x2), some (zrv x3), some (zrv x4), some (zI x5), none, none, none] [] h (zoI r) h' := by
  intro x0 x1 x2 x3 x4 x5 h r h' H
  unfold zm291_1669 at H
  refine zA_aldn rfl rfl rfl ?_
  refine zA_aldn rfl rfl rfl ?_
  refine zA_ld rfl rfl rfl ?_
  refine zA_push rfl rfl zkk5 ?_
  refine zA_st (st' := [zI (x5 + (1 : Int32)), zrv x0, zrv x1]) rfl rfl rfl rfl ?_
  obtain ⟨p21, i22, j23, e24, c25, c26, e27, H⟩ := zai_e H
  refine zA_ial rfl rfl e24 c25 c26 e27 ?_
  refine zA_aldn rfl rfl rfl ?_
  refine zA_ld rfl rfl rfl ?_
  refine zA_push rfl rfl zkk23 ?_
  refine zA_st (st' := [zI (x5 + (2 : Int32)), zrv x0, zI (zi h p21 i22 j23), zrv x1]) rfl rfl rfl rfl ?_
  obtain ⟨p28, i29, j30, e31, c32, c33, e34, H⟩ := zai_e H
  refine zA_ial rfl rfl e31 c32 c33 e34 ?_
  refine zA_aldn rfl rfl rfl ?_
  obtain ⟨x36, h35, C, H⟩ := zb2_e H
  refine zA_callV (as := [zrv x1, zI (zi h p21 i22 j23), zI (zi h p28 i29 j30), zrv x3]) (st' := []) rfl rfl rfl rfl rfl (zmE276 _ _ _ _) rfl (zmS276 C) ?_
  refine zA_ist2 rfl rfl rfl (zset1 (L' := [some (zrv x0), some (zrv x1), some (zrv x2), some (zrv x3), some (zrv x4), some (zI x5), some (zI x36), none, none]) rfl rfl (zpcV rfl rfl)) ?_
  refine zA_aldn rfl rfl rfl ?_
  refine zA_aldn rfl rfl rfl ?_
  refine zA_ld rfl rfl rfl ?_
  refine zA_push rfl rfl zkk5 ?_
  refine zA_st (st' := [zI (x5 + (1 : Int32)), zrv x0, zrv x2]) rfl rfl rfl rfl ?_
  obtain ⟨p37, i38, j39, e40, c41, c42, e43, H⟩ := zai_e H
  refine zA_ial rfl rfl e40 c41 c42 e43 ?_
  refine zA_aldn rfl rfl rfl ?_
  refine zA_ld rfl rfl rfl ?_
  refine zA_push rfl rfl zkk23 ?_
  refine zA_st (st' := [zI (x5 + (2 : Int32)), zrv x0, zI (zi h35 p37 i38 j39), zrv x2]) rfl rfl rfl rfl ?_
  obtain ⟨p44, i45, j46, e47, c48, c49, e50, H⟩ := zai_e H
  refine zA_ial rfl rfl e47 c48 c49 e50 ?_
  obtain ⟨p51, i52, e53, c54, H⟩ := zob_e H
  rcases zb_e H with ⟨x56, h55, C, H⟩ | ⟨E, h55, C, H⟩
  · refine zA_callV (as := [zrv x2, zI (zi h35 p37 i38 j39), zI (zi h35 p44 i45 j46)]) (st' := []) rfl rfl rfl (zrcv_Q e53 c54) rfl (zmE221 _ _ _) rfl (zmS221 C) ?_
    refine zA_ist2 rfl rfl rfl (zset1 (L' := [some (zrv x0), some (zrv x1), some (zrv x2), some (zrv x3), some (zrv x4), some (zI x5), some (zI x36), some (zI x56), none]) rfl rfl (zpcV rfl rfl)) ?_
    refine zA_aldn rfl rfl rfl ?_
    rcases zb_e H with ⟨x58, h57, C, H⟩ | ⟨E, h57, C, H⟩
    · refine zA_callV (as := [zrv x2]) (st' := []) rfl rfl rfl (zrcv_Q e53 c54) rfl (zmE137 _) rfl (zmS137 C) ?_
      refine zA_ld rfl rfl rfl ?_
      rcases zite_e H with ⟨c59, H⟩ | ⟨c59, H⟩
      · refine zA_brT (c := x58 = x36) rfl rfl rfl c59 ?_
        refine zA_ld rfl rfl rfl ?_
        rcases zite_e H with ⟨c60, H⟩ | ⟨c60, H⟩
        · refine zA_brF' (c := x36 = 0) rfl rfl rfl c60 ?_
          refine zA_aldn rfl rfl rfl ?_
          refine zA_push rfl rfl zkk7 ?_
          obtain ⟨p61, i62, j63, e64, c65, c66, e67, H⟩ := zar_e H
          refine zA_lal rfl rfl e64 c65 c66 e67 ?_
          refine zA_ld rfl rfl rfl ?_
          refine zA_st (st' := [zJ (x56.toInt64), zJ (zl h57 p61 i62 j63)]) rfl rfl rfl rfl ?_
          refine zA_st (st' := [zI (lg_cmp (zl h57 p61 i62 j63) (x56.toInt64))]) rfl rfl rfl rfl ?_
          rcases zite_e H with ⟨c68, H⟩ | ⟨c68, H⟩
          · refine zA_brT (c := (lg_cmp (zl h57 p61 i62 j63) (x56.toInt64)) = 0) rfl rfl rfl c68 ?_
            refine zA_tr (L := [some (zrv x0), some (zrv x1), some (zrv x2), some (zrv x3), some (zrv x4), some (zI x5), none, none, none]) rfl rfl ?_
            refine zA_go rfl rfl ?_
            exact zA_tr (L := [some (zrv x0), some (zrv x1), some (zrv x2), some (zrv x3), some (zrv x4), some (zI x5), none, none, none]) rfl rfl (zmS291_2349 hk16 _ _ _ _ _ _ _ _ _ H)
          · refine zA_brF (c := (lg_cmp (zl h57 p61 i62 j63) (x56.toInt64)) = 0) rfl rfl rfl c68 ?_
            refine zA_push rfl rfl zkk7 ?_
            cases H
            exact zA_ret rfl (zret_Z (by decide))
        · refine zA_brT' (c := x36 = 0) rfl rfl rfl c60 ?_
          refine zA_tr (L := [some (zrv x0), some (zrv x1), some (zrv x2), some (zrv x3), some (zrv x4), some (zI x5), none, none, none]) rfl rfl ?_
          refine zA_go rfl rfl ?_
          exact zA_tr (L := [some (zrv x0), some (zrv x1), some (zrv x2), some (zrv x3), some (zrv x4), some (zI x5), none, none, none]) rfl rfl (zmS291_2349 hk16 _ _ _ _ _ _ _ _ _ H)
      · refine zA_brF (c := x58 = x36) rfl rfl rfl c59 ?_
        refine zA_push rfl rfl zkk7 ?_
        cases H
        exact zA_ret rfl (zret_Z (by decide))
    · cases H
      exact zA_callX (as := [zrv x2]) (st' := []) rfl rfl (zrcv_Q e53 c54) rfl (zmE137 _) rfl rfl rfl (zmS137 C)
  · cases H
    exact zA_callX (as := [zrv x2, zI (zi h35 p37 i38 j39), zI (zi h35 p44 i45 j46)]) (st' := []) rfl rfl (zrcv_Q e53 c54) rfl (zmE221 _ _ _) rfl rfl rfl (zmS221 C)
def zm291_1604 (k16 : zq → zq → zq → zq → zq → Int32 → zH → zRs Int32) (x0 : zq) (x1 : zq) (x2 : zq) (x3 : zq) (x4 : zq) (x5 : Int32) (h : zH) : zRs Int32 :=
  zai x0 (x5 + (1 : Int32)) h fun p21 i22 j23 =>
  zai x0 (x5 + (2 : Int32)) h fun p28 i29 j30 =>
  zai x0 (x5 + (3 : Int32)) h fun p35 i36 j37 =>
  zai x0 (x5 + (4 : Int32)) h fun p42 i43 j44 =>
  zb2 (zm275 x1 (zi h p21 i22 j23) (zi h p28 i29 j30) (zi h p35 i36 j37) (zi h p42 i43 j44) x3 h) fun x50 h49 =>
  zai x0 (x5 + (1 : Int32)) h49 fun p51 i52 j53 =>
  zai x0 (x5 + (2 : Int32)) h49 fun p58 i59 j60 =>
  zai x0 (x5 + (3 : Int32)) h49 fun p65 i66 j67 =>
  zai x0 (x5 + (4 : Int32)) h49 fun p72 i73 j74 =>
  zob 12 x2 fun p79 i80 =>
  zb (zm220 x2 (zi h49 p51 i52 j53) (zi h49 p58 i59 j60) (zi h49 p65 i66 j67) (zi h49 p72 i73 j74) h49) fun x84 h83 =>
  zb (zm137 x2 h83) fun x86 h85 =>
  if x86 = x50 then
    if x50 = 0 then
      zar 3 x3 (0 : Int32) h85 fun p89 i90 j91 =>
      if (lg_cmp (zl h85 p89 i90 j91) (x84.toInt64)) = 0 then
        zm291_2349 k16 x0 x1 x2 x3 x4 x5 h85
      else
        some (.inl (0 : Int32), h85)
    else
      zm291_2349 k16 x0 x1 x2 x3 x4 x5 h85
  else
    some (.inl (0 : Int32), h85)
theorem zmS291_1604 {k16 : zq → zq → zq → zq → zq → Int32 → zH → zRs Int32} (hk16 : ∀ (x0 : zq) (x1 : zq) (x2 : zq) (x3 : zq) (x4 : zq) (x5 : Int32) (h : zH) (r : Int32 ⊕ Nat) (h' : zH), k16 x0 x1 x2 x3 x4 x5 h = some (r, h') → zAt 291 16 [some (zrv x0), some (zrv x1), some (zrv x2), some (zrv x3), some (zrv x4), some (zI x5), none, none, none] [] h (zoI r) h') : ∀ (x0 : zq) (x1 : zq) (x2 : zq) (x3 : zq) (x4 : zq) (x5 : Int32) (h : zH) (r : Int32 ⊕ Nat) (h' : zH), zm291_1604 k16 x0 x1 x2 x3 x4 x5 h = some (r, h') → zAt 291 1604 [some (zrv x0), some (zrv x1), some (zrv x2), some (zrv x3), some (zrv x4), some (zI x5), none, none, none] [] h (zoI r) h' := by
  intro x0 x1 x2 x3 x4 x5 h r h' H
  unfold zm291_1604 at H
  refine zA_aldn rfl rfl rfl ?_
  refine zA_aldn rfl rfl rfl ?_
  refine zA_ld rfl rfl rfl ?_
  refine zA_push rfl rfl zkk5 ?_
  refine zA_st (st' := [zI (x5 + (1 : Int32)), zrv x0, zrv x1]) rfl rfl rfl rfl ?_
  obtain ⟨p21, i22, j23, e24, c25, c26, e27, H⟩ := zai_e H
  refine zA_ial rfl rfl e24 c25 c26 e27 ?_
  refine zA_aldn rfl rfl rfl ?_
  refine zA_ld rfl rfl rfl ?_
  refine zA_push rfl rfl zkk23 ?_
  refine zA_st (st' := [zI (x5 + (2 : Int32)), zrv x0, zI (zi h p21 i22 j23), zrv x1]) rfl rfl rfl rfl ?_
  obtain ⟨p28, i29, j30, e31, c32, c33, e34, H⟩ := zai_e H
  refine zA_ial rfl rfl e31 c32 c33 e34 ?_
  refine zA_aldn rfl rfl rfl ?_
  refine zA_ld rfl rfl rfl ?_
  refine zA_push rfl rfl zkk3 ?_
  refine zA_st (st' := [zI (x5 + (3 : Int32)), zrv x0, zI (zi h p28 i29 j30), zI (zi h p21 i22 j23), zrv x1]) rfl rfl rfl rfl ?_
  obtain ⟨p35, i36, j37, e38, c39, c40, e41, H⟩ := zai_e H
  refine zA_ial rfl rfl e38 c39 c40 e41 ?_
  refine zA_aldn rfl rfl rfl ?_
  refine zA_ld rfl rfl rfl ?_
  refine zA_push rfl rfl zkk9 ?_
  refine zA_st (st' := [zI (x5 + (4 : Int32)), zrv x0, zI (zi h p35 i36 j37), zI (zi h p28 i29 j30), zI (zi h p21 i22 j23), zrv x1]) rfl rfl rfl rfl ?_
  obtain ⟨p42, i43, j44, e45, c46, c47, e48, H⟩ := zai_e H
  refine zA_ial rfl rfl e45 c46 c47 e48 ?_
  refine zA_aldn rfl rfl rfl ?_
  obtain ⟨x50, h49, C, H⟩ := zb2_e H
  refine zA_callV (as := [zrv x1, zI (zi h p21 i22 j23), zI (zi h p28 i29 j30), zI (zi h p35 i36 j37), zI (zi h p42 i43 j44), zrv x3]) (st' := []) rfl rfl rfl rfl rfl (zmE275 _ _ _ _ _ _) rfl (zmS275 C) ?_
  refine zA_ist2 rfl rfl rfl (zset1 (L' := [some (zrv x0), some (zrv x1), some (zrv x2), some (zrv x3), some (zrv x4), some (zI x5), some (zI x50), none, none]) rfl rfl (zpcV rfl rfl)) ?_
  refine zA_aldn rfl rfl rfl ?_
  refine zA_aldn rfl rfl rfl ?_
  refine zA_ld rfl rfl rfl ?_
  refine zA_push rfl rfl zkk5 ?_
  refine zA_st (st' := [zI (x5 + (1 : Int32)), zrv x0, zrv x2]) rfl rfl rfl rfl ?_
  obtain ⟨p51, i52, j53, e54, c55, c56, e57, H⟩ := zai_e H
  refine zA_ial rfl rfl e54 c55 c56 e57 ?_
  refine zA_aldn rfl rfl rfl ?_
  refine zA_ld rfl rfl rfl ?_
  refine zA_push rfl rfl zkk23 ?_
  refine zA_st (st' := [zI (x5 + (2 : Int32)), zrv x0, zI (zi h49 p51 i52 j53), zrv x2]) rfl rfl rfl rfl ?_
  obtain ⟨p58, i59, j60, e61, c62, c63, e64, H⟩ := zai_e H
  refine zA_ial rfl rfl e61 c62 c63 e64 ?_
  refine zA_aldn rfl rfl rfl ?_
  refine zA_ld rfl rfl rfl ?_
  refine zA_push rfl rfl zkk3 ?_
  refine zA_st (st' := [zI (x5 + (3 : Int32)), zrv x0, zI (zi h49 p58 i59 j60), zI (zi h49 p51 i52 j53), zrv x2]) rfl rfl rfl rfl ?_
  obtain ⟨p65, i66, j67, e68, c69, c70, e71, H⟩ := zai_e H
  refine zA_ial rfl rfl e68 c69 c70 e71 ?_
  refine zA_aldn rfl rfl rfl ?_
  refine zA_ld rfl rfl rfl ?_
  refine zA_push rfl rfl zkk9 ?_
  refine zA_st (st' := [zI (x5 + (4 : Int32)), zrv x0, zI (zi h49 p65 i66 j67), zI (zi h49 p58 i59 j60), zI (zi h49 p51 i52 j53), zrv x2]) rfl rfl rfl rfl ?_
  obtain ⟨p72, i73, j74, e75, c76, c77, e78, H⟩ := zai_e H
  refine zA_ial rfl rfl e75 c76 c77 e78 ?_
  obtain ⟨p79, i80, e81, c82, H⟩ := zob_e H
  rcases zb_e H with ⟨x84, h83, C, H⟩ | ⟨E, h83, C, H⟩
  · refine zA_callV (as := [zrv x2, zI (zi h49 p51 i52 j53), zI (zi h49 p58 i59 j60), zI (zi h49 p65 i66 j67), zI (zi h49 p72 i73 j74)]) (st' := []) rfl rfl rfl (zrcv_Q e81 c82) rfl (zmE220 _ _ _ _ _) rfl (zmS220 C) ?_
    refine zA_ist2 rfl rfl rfl (zset1 (L' := [some (zrv x0), some (zrv x1), some (zrv x2), some (zrv x3), some (zrv x4), some (zI x5), some (zI x50), some (zI x84), none]) rfl rfl (zpcV rfl rfl)) ?_
    refine zA_aldn rfl rfl rfl ?_
    rcases zb_e H with ⟨x86, h85, C, H⟩ | ⟨E, h85, C, H⟩
    · refine zA_callV (as := [zrv x2]) (st' := []) rfl rfl rfl (zrcv_Q e81 c82) rfl (zmE137 _) rfl (zmS137 C) ?_
      refine zA_ld rfl rfl rfl ?_
      rcases zite_e H with ⟨c87, H⟩ | ⟨c87, H⟩
      · refine zA_brT (c := x86 = x50) rfl rfl rfl c87 ?_
        refine zA_ld rfl rfl rfl ?_
        rcases zite_e H with ⟨c88, H⟩ | ⟨c88, H⟩
        · refine zA_brF' (c := x50 = 0) rfl rfl rfl c88 ?_
          refine zA_aldn rfl rfl rfl ?_
          refine zA_push rfl rfl zkk7 ?_
          obtain ⟨p89, i90, j91, e92, c93, c94, e95, H⟩ := zar_e H
          refine zA_lal rfl rfl e92 c93 c94 e95 ?_
          refine zA_ld rfl rfl rfl ?_
          refine zA_st (st' := [zJ (x84.toInt64), zJ (zl h85 p89 i90 j91)]) rfl rfl rfl rfl ?_
          refine zA_st (st' := [zI (lg_cmp (zl h85 p89 i90 j91) (x84.toInt64))]) rfl rfl rfl rfl ?_
          rcases zite_e H with ⟨c96, H⟩ | ⟨c96, H⟩
          · refine zA_brT (c := (lg_cmp (zl h85 p89 i90 j91) (x84.toInt64)) = 0) rfl rfl rfl c96 ?_
            refine zA_tr (L := [some (zrv x0), some (zrv x1), some (zrv x2), some (zrv x3), some (zrv x4), some (zI x5), none, none, none]) rfl rfl ?_
            refine zA_go rfl rfl ?_
            exact zA_tr (L := [some (zrv x0), some (zrv x1), some (zrv x2), some (zrv x3), some (zrv x4), some (zI x5), none, none, none]) rfl rfl (zmS291_2349 hk16 _ _ _ _ _ _ _ _ _ H)
          · refine zA_brF (c := (lg_cmp (zl h85 p89 i90 j91) (x84.toInt64)) = 0) rfl rfl rfl c96 ?_
            refine zA_push rfl rfl zkk7 ?_
            cases H
            exact zA_ret rfl (zret_Z (by decide))
        · refine zA_brT' (c := x50 = 0) rfl rfl rfl c88 ?_
          refine zA_tr (L := [some (zrv x0), some (zrv x1), some (zrv x2), some (zrv x3), some (zrv x4), some (zI x5), none, none, none]) rfl rfl ?_
          refine zA_go rfl rfl ?_
          exact zA_tr (L := [some (zrv x0), some (zrv x1), some (zrv x2), some (zrv x3), some (zrv x4), some (zI x5), none, none, none]) rfl rfl (zmS291_2349 hk16 _ _ _ _ _ _ _ _ _ H)
      · refine zA_brF (c := x86 = x50) rfl rfl rfl c87 ?_
        refine zA_push rfl rfl zkk7 ?_
        cases H
        exact zA_ret rfl (zret_Z (by decide))
    · cases H
      exact zA_callX (as := [zrv x2]) (st' := []) rfl rfl (zrcv_Q e81 c82) rfl (zmE137 _) rfl rfl rfl (zmS137 C)
  · cases H
    exact zA_callX (as := [zrv x2, zI (zi h49 p51 i52 j53), zI (zi h49 p58 i59 j60), zI (zi h49 p65 i66 j67), zI (zi h49 p72 i73 j74)]) (st' := []) rfl rfl (zrcv_Q e81 c82) rfl (zmE220 _ _ _ _ _) rfl rfl rfl (zmS220 C)
def zm291_1599 (k16 : zq → zq → zq → zq → zq → Int32 → zH → zRs Int32) (x0 : zq) (x1 : zq) (x2 : zq) (x3 : zq) (x4 : zq) (x5 : Int32) (s0 : Int64) (s1 : Int64) (h : zH) : zRs Int32 :=
  if (lg_cmp s0 s1) = 0 then
    zm291_2349 k16 x0 x1 x2 x3 x4 x5 h
  else
    some (.inl (0 : Int32), h)
theorem zmS291_1599 {k16 : zq → zq → zq → zq → zq → Int32 → zH → zRs Int32} (hk16 : ∀ (x0 : zq) (x1 : zq) (x2 : zq) (x3 : zq) (x4 : zq) (x5 : Int32) (h : zH) (r : Int32 ⊕ Nat) (h' : zH), k16 x0 x1 x2 x3 x4 x5 h = some (r, h') → zAt 291 16 [some (zrv x0), some (zrv x1), some (zrv x2), some (zrv x3), some (zrv x4), some (zI x5), none, none, none] [] h (zoI r) h') : ∀ (x0 : zq) (x1 : zq) (x2 : zq) (x3 : zq) (x4 : zq) (x5 : Int32) (s0 : Int64) (s1 : Int64) (h : zH) (r : Int32 ⊕ Nat) (h' : zH), zm291_1599 k16 x0 x1 x2 x3 x4 x5 s0 s1 h = some (r, h') → zAt 291 1599 [some (zrv x0), some (zrv x1), some (zrv x2), some (zrv x3), some (zrv x4), some (zI x5), none, none, none] [zJ s1, zJ s0] h (zoI r) h' := by
  intro x0 x1 x2 x3 x4 x5 s0 s1 h r h' H
  unfold zm291_1599 at H
  refine zA_st (st' := [zI (lg_cmp s0 s1)]) rfl rfl rfl rfl ?_
  rcases zite_e H with ⟨c21, H⟩ | ⟨c21, H⟩
  · refine zA_brT (c := (lg_cmp s0 s1) = 0) rfl rfl rfl c21 ?_
    refine zA_go rfl rfl ?_
    exact zA_tr (L := [some (zrv x0), some (zrv x1), some (zrv x2), some (zrv x3), some (zrv x4), some (zI x5), none, none, none]) rfl rfl (zmS291_2349 hk16 _ _ _ _ _ _ _ _ _ H)
  · refine zA_brF (c := (lg_cmp s0 s1) = 0) rfl rfl rfl c21 ?_
    refine zA_push rfl rfl zkk7 ?_
    cases H
    exact zA_ret rfl (zret_Z (by decide))
def zm291_1566 (k16 : zq → zq → zq → zq → zq → Int32 → zH → zRs Int32) (x0 : zq) (x1 : zq) (x2 : zq) (x3 : zq) (x4 : zq) (x5 : Int32) (h : zH) : zRs Int32 :=
  zai x0 (x5 + (1 : Int32)) h fun p21 i22 j23 =>
  zb2 (zm274 x1 (zi h p21 i22 j23) x3 h) fun x29 h28 =>
  zai x0 (x5 + (1 : Int32)) h28 fun p30 i31 j32 =>
  zob 12 x2 fun p37 i38 =>
  zb (zm219 x2 (zi h28 p30 i31 j32) h28) fun x42 h41 =>
  zb (zm137 x2 h41) fun x44 h43 =>
  if x44 = x29 then
    if x29 = 0 then
      zar 3 x3 (0 : Int32) h43 fun p47 i48 j49 =>
      if x42 = 0 then
        zm291_1599 k16 x0 x1 x2 x3 x4 x5 (zl h43 p47 i48 j49) (0 : Int64) h43
      else
        zm291_1599 k16 x0 x1 x2 x3 x4 x5 (zl h43 p47 i48 j49) (1 : Int64) h43
    else
      zm291_2349 k16 x0 x1 x2 x3 x4 x5 h43
  else
    some (.inl (0 : Int32), h43)
theorem zmS291_1566 {k16 : zq → zq → zq → zq → zq → Int32 → zH → zRs Int32} (hk16 : ∀ (x0 : zq) (x1 : zq) (x2 : zq) (x3 : zq) (x4 : zq) (x5 : Int32) (h : zH) (r : Int32 ⊕ Nat) (h' : zH), k16 x0 x1 x2 x3 x4 x5 h = some (r, h') → zAt 291 16 [some (zrv x0), some (zrv x1), some (zrv x2), some (zrv x3), some (zrv x4), some (zI x5), none, none, none] [] h (zoI r) h') : ∀ (x0 : zq) (x1 : zq) (x2 : zq) (x3 : zq) (x4 : zq) (x5 : Int32) (h : zH) (r : Int32 ⊕ Nat) (h' : zH), zm291_1566 k16 x0 x1 x2 x3 x4 x5 h = some (r, h') → zAt 291 1566 [some (zrv x0), some (zrv x1), some (zrv x2), some (zrv x3), some (zrv x4), some (zI x5), none, none, none] [] h (zoI r) h' := by
  intro x0 x1 x2 x3 x4 x5 h r h' H
  unfold zm291_1566 at H
  refine zA_aldn rfl rfl rfl ?_
  refine zA_aldn rfl rfl rfl ?_
  refine zA_ld rfl rfl rfl ?_
  refine zA_push rfl rfl zkk5 ?_
  refine zA_st (st' := [zI (x5 + (1 : Int32)), zrv x0, zrv x1]) rfl rfl rfl rfl ?_
  obtain ⟨p21, i22, j23, e24, c25, c26, e27, H⟩ := zai_e H
  refine zA_ial rfl rfl e24 c25 c26 e27 ?_
  refine zA_aldn rfl rfl rfl ?_
  obtain ⟨x29, h28, C, H⟩ := zb2_e H
  refine zA_callV (as := [zrv x1, zI (zi h p21 i22 j23), zrv x3]) (st' := []) rfl rfl rfl rfl rfl (zmE274 _ _ _) rfl (zmS274 C) ?_
  refine zA_ist2 rfl rfl rfl (zset1 (L' := [some (zrv x0), some (zrv x1), some (zrv x2), some (zrv x3), some (zrv x4), some (zI x5), some (zI x29), none, none]) rfl rfl (zpcV rfl rfl)) ?_
  refine zA_aldn rfl rfl rfl ?_
  refine zA_aldn rfl rfl rfl ?_
  refine zA_ld rfl rfl rfl ?_
  refine zA_push rfl rfl zkk5 ?_
  refine zA_st (st' := [zI (x5 + (1 : Int32)), zrv x0, zrv x2]) rfl rfl rfl rfl ?_
  obtain ⟨p30, i31, j32, e33, c34, c35, e36, H⟩ := zai_e H
  refine zA_ial rfl rfl e33 c34 c35 e36 ?_
  obtain ⟨p37, i38, e39, c40, H⟩ := zob_e H
  rcases zb_e H with ⟨x42, h41, C, H⟩ | ⟨E, h41, C, H⟩
  · refine zA_callV (as := [zrv x2, zI (zi h28 p30 i31 j32)]) (st' := []) rfl rfl rfl (zrcv_Q e39 c40) rfl (zmE219 _ _) rfl (zmS219 C) ?_
    refine zA_ist2 rfl rfl rfl (zset1 (L' := [some (zrv x0), some (zrv x1), some (zrv x2), some (zrv x3), some (zrv x4), some (zI x5), some (zI x29), some (zI x42), none]) rfl rfl (zpcV rfl rfl)) ?_
    refine zA_aldn rfl rfl rfl ?_
    rcases zb_e H with ⟨x44, h43, C, H⟩ | ⟨E, h43, C, H⟩
    · refine zA_callV (as := [zrv x2]) (st' := []) rfl rfl rfl (zrcv_Q e39 c40) rfl (zmE137 _) rfl (zmS137 C) ?_
      refine zA_ld rfl rfl rfl ?_
      rcases zite_e H with ⟨c45, H⟩ | ⟨c45, H⟩
      · refine zA_brT (c := x44 = x29) rfl rfl rfl c45 ?_
        refine zA_ld rfl rfl rfl ?_
        rcases zite_e H with ⟨c46, H⟩ | ⟨c46, H⟩
        · refine zA_brF' (c := x29 = 0) rfl rfl rfl c46 ?_
          refine zA_aldn rfl rfl rfl ?_
          refine zA_push rfl rfl zkk7 ?_
          obtain ⟨p47, i48, j49, e50, c51, c52, e53, H⟩ := zar_e H
          refine zA_lal rfl rfl e50 c51 c52 e53 ?_
          refine zA_ld rfl rfl rfl ?_
          rcases zite_e H with ⟨c54, H⟩ | ⟨c54, H⟩
          · refine zA_brT (c := x42 = 0) rfl rfl rfl c54 ?_
            refine zA_tr (L := [some (zrv x0), some (zrv x1), some (zrv x2), some (zrv x3), some (zrv x4), some (zI x5), none, none, none]) rfl rfl ?_
            refine zA_push rfl rfl zkk24 ?_
            exact zA_tr (L := [some (zrv x0), some (zrv x1), some (zrv x2), some (zrv x3), some (zrv x4), some (zI x5), none, none, none]) rfl rfl (zmS291_1599 hk16 _ _ _ _ _ _ _ _ _ _ _ H)
          · refine zA_brF (c := x42 = 0) rfl rfl rfl c54 ?_
            refine zA_push rfl rfl zkk25 ?_
            refine zA_go rfl rfl ?_
            exact zA_tr (L := [some (zrv x0), some (zrv x1), some (zrv x2), some (zrv x3), some (zrv x4), some (zI x5), none, none, none]) rfl rfl (zmS291_1599 hk16 _ _ _ _ _ _ _ _ _ _ _ H)
        · refine zA_brT' (c := x29 = 0) rfl rfl rfl c46 ?_
          refine zA_tr (L := [some (zrv x0), some (zrv x1), some (zrv x2), some (zrv x3), some (zrv x4), some (zI x5), none, none, none]) rfl rfl ?_
          refine zA_go rfl rfl ?_
          exact zA_tr (L := [some (zrv x0), some (zrv x1), some (zrv x2), some (zrv x3), some (zrv x4), some (zI x5), none, none, none]) rfl rfl (zmS291_2349 hk16 _ _ _ _ _ _ _ _ _ H)
      · refine zA_brF (c := x44 = x29) rfl rfl rfl c45 ?_
        refine zA_push rfl rfl zkk7 ?_
        cases H
        exact zA_ret rfl (zret_Z (by decide))
    · cases H
      exact zA_callX (as := [zrv x2]) (st' := []) rfl rfl (zrcv_Q e39 c40) rfl (zmE137 _) rfl rfl rfl (zmS137 C)
  · cases H
    exact zA_callX (as := [zrv x2, zI (zi h28 p30 i31 j32)]) (st' := []) rfl rfl (zrcv_Q e39 c40) rfl (zmE219 _ _) rfl rfl rfl (zmS219 C)
def zm291_1534 (k16 : zq → zq → zq → zq → zq → Int32 → zH → zRs Int32) (x0 : zq) (x1 : zq) (x2 : zq) (x3 : zq) (x4 : zq) (x5 : Int32) (x6 : Int32) (s0 : zq) (s1 : Int32) (s2 : Int32) (s3 : Int32) (h : zH) : zRs Int32 :=
  zob 12 s0 fun p21 i22 =>
  zb (zm218 s0 s1 s2 s3 h) fun x26 h25 =>
  zob 12 x2 fun p27 i28 =>
  zb (zm137 x2 h25) fun x32 h31 =>
  if x32 = x6 then
    if x6 = 0 then
      zar 4 x4 (0 : Int32) h31 fun p35 i36 j37 =>
      zif (FP.f2d x26 &&& 0x7fffffffffffffff ≤ 0x7ff0000000000000) <|
      if (Op.cmpValue (FP.dcmp (zd h31 p35 i36 j37) (FP.f2d x26)) .l) = 0 then
        zm291_2349 k16 x0 x1 x2 x3 x4 x5 h31
      else
        zar 4 x4 (0 : Int32) h31 fun p44 i45 j46 =>
        zar 4 x4 (0 : Int32) h31 fun p51 i52 j53 =>
        if (Op.cmpValue (FP.dcmp (zd h31 p44 i45 j46) (zd h31 p51 i52 j53)) .l) = 0 then
          some (.inl (0 : Int32), h31)
        else
          if (Op.cmpValue (FP.fcmp x26 x26) .l) = 0 then
            some (.inl (0 : Int32), h31)
          else
            zm291_2349 k16 x0 x1 x2 x3 x4 x5 h31
    else
      zm291_2349 k16 x0 x1 x2 x3 x4 x5 h31
  else
    some (.inl (0 : Int32), h31)
theorem zmS291_1534 {k16 : zq → zq → zq → zq → zq → Int32 → zH → zRs Int32} (hk16 : ∀ (x0 : zq) (x1 : zq) (x2 : zq) (x3 : zq) (x4 : zq) (x5 : Int32) (h : zH) (r : Int32 ⊕ Nat) (h' : zH), k16 x0 x1 x2 x3 x4 x5 h = some (r, h') → zAt 291 16 [some (zrv x0), some (zrv x1), some (zrv x2), some (zrv x3), some (zrv x4), some (zI x5), none, none, none] [] h (zoI r) h') : ∀ (x0 : zq) (x1 : zq) (x2 : zq) (x3 : zq) (x4 : zq) (x5 : Int32) (x6 : Int32) (s0 : zq) (s1 : Int32) (s2 : Int32) (s3 : Int32) (h : zH) (r : Int32 ⊕ Nat) (h' : zH), zm291_1534 k16 x0 x1 x2 x3 x4 x5 x6 s0 s1 s2 s3 h = some (r, h') → zAt 291 1534 [some (zrv x0), some (zrv x1), some (zrv x2), some (zrv x3), some (zrv x4), some (zI x5), some (zI x6), none, none] [zI s3, zI s2, zI s1, zrv s0] h (zoI r) h' := by
  intro x0 x1 x2 x3 x4 x5 x6 s0 s1 s2 s3 h r h' H
  unfold zm291_1534 at H
  obtain ⟨p21, i22, e23, c24, H⟩ := zob_e H
  rcases zb_e H with ⟨x26, h25, C, H⟩ | ⟨E, h25, C, H⟩
  · refine zA_callV (as := [zrv s0, zI s1, zI s2, zI s3]) (st' := []) rfl rfl rfl (zrcv_Q e23 c24) rfl (zmE218 _ _ _ _) rfl (zmS218 C) ?_
    refine zA_fst2 rfl rfl rfl (zset1 (L' := [some (zrv x0), some (zrv x1), some (zrv x2), some (zrv x3), some (zrv x4), some (zI x5), some (zI x6), some (zF x26), none]) rfl rfl (zpcV rfl rfl)) ?_
    refine zA_aldn rfl rfl rfl ?_
    obtain ⟨p27, i28, e29, c30, H⟩ := zob_e H
    rcases zb_e H with ⟨x32, h31, C, H⟩ | ⟨E, h31, C, H⟩
    · refine zA_callV (as := [zrv x2]) (st' := []) rfl rfl rfl (zrcv_Q e29 c30) rfl (zmE137 _) rfl (zmS137 C) ?_
      refine zA_ld rfl rfl rfl ?_
      rcases zite_e H with ⟨c33, H⟩ | ⟨c33, H⟩
      · refine zA_brT (c := x32 = x6) rfl rfl rfl c33 ?_
        refine zA_ld rfl rfl rfl ?_
        rcases zite_e H with ⟨c34, H⟩ | ⟨c34, H⟩
        · refine zA_brF' (c := x6 = 0) rfl rfl rfl c34 ?_
          refine zA_ald rfl rfl rfl ?_
          refine zA_push rfl rfl zkk7 ?_
          obtain ⟨p35, i36, j37, e38, c39, c40, e41, H⟩ := zar_e H
          refine zA_dal rfl rfl e38 c39 c40 e41 ?_
          refine zA_fld rfl rfl rfl ?_
          obtain ⟨c42, H⟩ := zif_e H
          refine zA_f2d rfl rfl c42 ?_
          refine zA_st (st' := [zI (Op.cmpValue (FP.dcmp (zd h31 p35 i36 j37) (FP.f2d x26)) .l)]) rfl rfl rfl rfl ?_
          rcases zite_e H with ⟨c43, H⟩ | ⟨c43, H⟩
          · refine zA_brT (c := (Op.cmpValue (FP.dcmp (zd h31 p35 i36 j37) (FP.f2d x26)) .l) = 0) rfl rfl rfl c43 ?_
            refine zA_tr (L := [some (zrv x0), some (zrv x1), some (zrv x2), some (zrv x3), some (zrv x4), some (zI x5), none, none, none]) rfl rfl ?_
            refine zA_go rfl rfl ?_
            exact zA_tr (L := [some (zrv x0), some (zrv x1), some (zrv x2), some (zrv x3), some (zrv x4), some (zI x5), none, none, none]) rfl rfl (zmS291_2349 hk16 _ _ _ _ _ _ _ _ _ H)
          · refine zA_brF (c := (Op.cmpValue (FP.dcmp (zd h31 p35 i36 j37) (FP.f2d x26)) .l) = 0) rfl rfl rfl c43 ?_
            refine zA_ald rfl rfl rfl ?_
            refine zA_push rfl rfl zkk7 ?_
            obtain ⟨p44, i45, j46, e47, c48, c49, e50, H⟩ := zar_e H
            refine zA_dal rfl rfl e47 c48 c49 e50 ?_
            refine zA_ald rfl rfl rfl ?_
            refine zA_push rfl rfl zkk7 ?_
            obtain ⟨p51, i52, j53, e54, c55, c56, e57, H⟩ := zar_e H
            refine zA_dal rfl rfl e54 c55 c56 e57 ?_
            refine zA_st (st' := [zI (Op.cmpValue (FP.dcmp (zd h31 p44 i45 j46) (zd h31 p51 i52 j53)) .l)]) rfl rfl rfl rfl ?_
            rcases zite_e H with ⟨c58, H⟩ | ⟨c58, H⟩
            · refine zA_brT (c := (Op.cmpValue (FP.dcmp (zd h31 p44 i45 j46) (zd h31 p51 i52 j53)) .l) = 0) rfl rfl rfl c58 ?_
              refine zA_tr (L := [none, none, none, none, none, none, none, none, none]) rfl rfl ?_
              refine zA_push rfl rfl zkk7 ?_
              cases H
              exact zA_ret rfl (zret_Z (by decide))
            · refine zA_brF (c := (Op.cmpValue (FP.dcmp (zd h31 p44 i45 j46) (zd h31 p51 i52 j53)) .l) = 0) rfl rfl rfl c58 ?_
              refine zA_fld rfl rfl rfl ?_
              refine zA_fld rfl rfl rfl ?_
              refine zA_st (st' := [zI (Op.cmpValue (FP.fcmp x26 x26) .l)]) rfl rfl rfl rfl ?_
              rcases zite_e H with ⟨c59, H⟩ | ⟨c59, H⟩
              · refine zA_brF' (c := (Op.cmpValue (FP.fcmp x26 x26) .l) = 0) rfl rfl rfl c59 ?_
                refine zA_tr (L := [none, none, none, none, none, none, none, none, none]) rfl rfl ?_
                refine zA_push rfl rfl zkk7 ?_
                cases H
                exact zA_ret rfl (zret_Z (by decide))
              · refine zA_brT' (c := (Op.cmpValue (FP.fcmp x26 x26) .l) = 0) rfl rfl rfl c59 ?_
                refine zA_tr (L := [some (zrv x0), some (zrv x1), some (zrv x2), some (zrv x3), some (zrv x4), some (zI x5), none, none, none]) rfl rfl ?_
                refine zA_go rfl rfl ?_
                exact zA_tr (L := [some (zrv x0), some (zrv x1), some (zrv x2), some (zrv x3), some (zrv x4), some (zI x5), none, none, none]) rfl rfl (zmS291_2349 hk16 _ _ _ _ _ _ _ _ _ H)
        · refine zA_brT' (c := x6 = 0) rfl rfl rfl c34 ?_
          refine zA_tr (L := [some (zrv x0), some (zrv x1), some (zrv x2), some (zrv x3), some (zrv x4), some (zI x5), none, none, none]) rfl rfl ?_
          refine zA_go rfl rfl ?_
          exact zA_tr (L := [some (zrv x0), some (zrv x1), some (zrv x2), some (zrv x3), some (zrv x4), some (zI x5), none, none, none]) rfl rfl (zmS291_2349 hk16 _ _ _ _ _ _ _ _ _ H)
      · refine zA_brF (c := x32 = x6) rfl rfl rfl c33 ?_
        refine zA_push rfl rfl zkk7 ?_
        cases H
        exact zA_ret rfl (zret_Z (by decide))
    · cases H
      exact zA_callX (as := [zrv x2]) (st' := []) rfl rfl (zrcv_Q e29 c30) rfl (zmE137 _) rfl rfl rfl (zmS137 C)
  · cases H
    exact zA_callX (as := [zrv s0, zI s1, zI s2, zI s3]) (st' := []) rfl rfl (zrcv_Q e23 c24) rfl (zmE218 _ _ _ _) rfl rfl rfl (zmS218 C)
def zm291_1511 (k16 : zq → zq → zq → zq → zq → Int32 → zH → zRs Int32) (x0 : zq) (x1 : zq) (x2 : zq) (x3 : zq) (x4 : zq) (x5 : Int32) (s0 : zq) (s1 : Int32) (s2 : Int32) (s3 : Int32) (h : zH) : zRs Int32 :=
  zb2 (zm273 s0 s1 s2 s3 x4 h) fun x22 h21 =>
  zai x0 (x5 + (1 : Int32)) h21 fun p23 i24 j25 =>
  zai x0 (x5 + (2 : Int32)) h21 fun p30 i31 j32 =>
  zai x0 (x5 + (3 : Int32)) h21 fun p37 i38 j39 =>
  if (zi h21 p37 i38 j39) = 0 then
    zm291_1534 k16 x0 x1 x2 x3 x4 x5 x22 x2 (zi h21 p23 i24 j25) (zi h21 p30 i31 j32) (0 : Int32) h21
  else
    zm291_1534 k16 x0 x1 x2 x3 x4 x5 x22 x2 (zi h21 p23 i24 j25) (zi h21 p30 i31 j32) (1 : Int32) h21
theorem zmS291_1511 {k16 : zq → zq → zq → zq → zq → Int32 → zH → zRs Int32} (hk16 : ∀ (x0 : zq) (x1 : zq) (x2 : zq) (x3 : zq) (x4 : zq) (x5 : Int32) (h : zH) (r : Int32 ⊕ Nat) (h' : zH), k16 x0 x1 x2 x3 x4 x5 h = some (r, h') → zAt 291 16 [some (zrv x0), some (zrv x1), some (zrv x2), some (zrv x3), some (zrv x4), some (zI x5), none, none, none] [] h (zoI r) h') : ∀ (x0 : zq) (x1 : zq) (x2 : zq) (x3 : zq) (x4 : zq) (x5 : Int32) (s0 : zq) (s1 : Int32) (s2 : Int32) (s3 : Int32) (h : zH) (r : Int32 ⊕ Nat) (h' : zH), zm291_1511 k16 x0 x1 x2 x3 x4 x5 s0 s1 s2 s3 h = some (r, h') → zAt 291 1511 [some (zrv x0), some (zrv x1), some (zrv x2), some (zrv x3), some (zrv x4), some (zI x5), none, none, none] [zI s3, zI s2, zI s1, zrv s0] h (zoI r) h' := by
  intro x0 x1 x2 x3 x4 x5 s0 s1 s2 s3 h r h' H
  unfold zm291_1511 at H
  refine zA_ald rfl rfl rfl ?_
  obtain ⟨x22, h21, C, H⟩ := zb2_e H
  refine zA_callV (as := [zrv s0, zI s1, zI s2, zI s3, zrv x4]) (st' := []) rfl rfl rfl rfl rfl (zmE273 _ _ _ _ _) rfl (zmS273 C) ?_
  refine zA_ist2 rfl rfl rfl (zset1 (L' := [some (zrv x0), some (zrv x1), some (zrv x2), some (zrv x3), some (zrv x4), some (zI x5), some (zI x22), none, none]) rfl rfl (zpcV rfl rfl)) ?_
  refine zA_aldn rfl rfl rfl ?_
  refine zA_aldn rfl rfl rfl ?_
  refine zA_ld rfl rfl rfl ?_
  refine zA_push rfl rfl zkk5 ?_
  refine zA_st (st' := [zI (x5 + (1 : Int32)), zrv x0, zrv x2]) rfl rfl rfl rfl ?_
  obtain ⟨p23, i24, j25, e26, c27, c28, e29, H⟩ := zai_e H
  refine zA_ial rfl rfl e26 c27 c28 e29 ?_
  refine zA_aldn rfl rfl rfl ?_
  refine zA_ld rfl rfl rfl ?_
  refine zA_push rfl rfl zkk23 ?_
  refine zA_st (st' := [zI (x5 + (2 : Int32)), zrv x0, zI (zi h21 p23 i24 j25), zrv x2]) rfl rfl rfl rfl ?_
  obtain ⟨p30, i31, j32, e33, c34, c35, e36, H⟩ := zai_e H
  refine zA_ial rfl rfl e33 c34 c35 e36 ?_
  refine zA_aldn rfl rfl rfl ?_
  refine zA_ld rfl rfl rfl ?_
  refine zA_push rfl rfl zkk3 ?_
  refine zA_st (st' := [zI (x5 + (3 : Int32)), zrv x0, zI (zi h21 p30 i31 j32), zI (zi h21 p23 i24 j25), zrv x2]) rfl rfl rfl rfl ?_
  obtain ⟨p37, i38, j39, e40, c41, c42, e43, H⟩ := zai_e H
  refine zA_ial rfl rfl e40 c41 c42 e43 ?_
  rcases zite_e H with ⟨c44, H⟩ | ⟨c44, H⟩
  · refine zA_brT (c := (zi h21 p37 i38 j39) = 0) rfl rfl rfl c44 ?_
    refine zA_push rfl rfl zkk7 ?_
    exact zA_tr (L := [some (zrv x0), some (zrv x1), some (zrv x2), some (zrv x3), some (zrv x4), some (zI x5), some (zI x22), none, none]) rfl rfl (zmS291_1534 hk16 _ _ _ _ _ _ _ _ _ _ _ _ _ _ H)
  · refine zA_brF (c := (zi h21 p37 i38 j39) = 0) rfl rfl rfl c44 ?_
    refine zA_push rfl rfl zkk5 ?_
    refine zA_go rfl rfl ?_
    exact zA_tr (L := [some (zrv x0), some (zrv x1), some (zrv x2), some (zrv x3), some (zrv x4), some (zI x5), some (zI x22), none, none]) rfl rfl (zmS291_1534 hk16 _ _ _ _ _ _ _ _ _ _ _ _ _ _ H)
def zm291_1491 (k16 : zq → zq → zq → zq → zq → Int32 → zH → zRs Int32) (x0 : zq) (x1 : zq) (x2 : zq) (x3 : zq) (x4 : zq) (x5 : Int32) (h : zH) : zRs Int32 :=
  zai x0 (x5 + (1 : Int32)) h fun p21 i22 j23 =>
  zai x0 (x5 + (2 : Int32)) h fun p28 i29 j30 =>
  zai x0 (x5 + (3 : Int32)) h fun p35 i36 j37 =>
  if (zi h p35 i36 j37) = 0 then
    zm291_1511 k16 x0 x1 x2 x3 x4 x5 x1 (zi h p21 i22 j23) (zi h p28 i29 j30) (0 : Int32) h
  else
    zm291_1511 k16 x0 x1 x2 x3 x4 x5 x1 (zi h p21 i22 j23) (zi h p28 i29 j30) (1 : Int32) h
theorem zmS291_1491 {k16 : zq → zq → zq → zq → zq → Int32 → zH → zRs Int32} (hk16 : ∀ (x0 : zq) (x1 : zq) (x2 : zq) (x3 : zq) (x4 : zq) (x5 : Int32) (h : zH) (r : Int32 ⊕ Nat) (h' : zH), k16 x0 x1 x2 x3 x4 x5 h = some (r, h') → zAt 291 16 [some (zrv x0), some (zrv x1), some (zrv x2), some (zrv x3), some (zrv x4), some (zI x5), none, none, none] [] h (zoI r) h') : ∀ (x0 : zq) (x1 : zq) (x2 : zq) (x3 : zq) (x4 : zq) (x5 : Int32) (h : zH) (r : Int32 ⊕ Nat) (h' : zH), zm291_1491 k16 x0 x1 x2 x3 x4 x5 h = some (r, h') → zAt 291 1491 [some (zrv x0), some (zrv x1), some (zrv x2), some (zrv x3), some (zrv x4), some (zI x5), none, none, none] [] h (zoI r) h' := by
  intro x0 x1 x2 x3 x4 x5 h r h' H
  unfold zm291_1491 at H
  refine zA_aldn rfl rfl rfl ?_
  refine zA_aldn rfl rfl rfl ?_
  refine zA_ld rfl rfl rfl ?_
  refine zA_push rfl rfl zkk5 ?_
  refine zA_st (st' := [zI (x5 + (1 : Int32)), zrv x0, zrv x1]) rfl rfl rfl rfl ?_
  obtain ⟨p21, i22, j23, e24, c25, c26, e27, H⟩ := zai_e H
  refine zA_ial rfl rfl e24 c25 c26 e27 ?_
  refine zA_aldn rfl rfl rfl ?_
  refine zA_ld rfl rfl rfl ?_
  refine zA_push rfl rfl zkk23 ?_
  refine zA_st (st' := [zI (x5 + (2 : Int32)), zrv x0, zI (zi h p21 i22 j23), zrv x1]) rfl rfl rfl rfl ?_
  obtain ⟨p28, i29, j30, e31, c32, c33, e34, H⟩ := zai_e H
  refine zA_ial rfl rfl e31 c32 c33 e34 ?_
  refine zA_aldn rfl rfl rfl ?_
  refine zA_ld rfl rfl rfl ?_
  refine zA_push rfl rfl zkk3 ?_
  refine zA_st (st' := [zI (x5 + (3 : Int32)), zrv x0, zI (zi h p28 i29 j30), zI (zi h p21 i22 j23), zrv x1]) rfl rfl rfl rfl ?_
  obtain ⟨p35, i36, j37, e38, c39, c40, e41, H⟩ := zai_e H
  refine zA_ial rfl rfl e38 c39 c40 e41 ?_
  rcases zite_e H with ⟨c42, H⟩ | ⟨c42, H⟩
  · refine zA_brT (c := (zi h p35 i36 j37) = 0) rfl rfl rfl c42 ?_
    refine zA_push rfl rfl zkk7 ?_
    exact zA_tr (L := [some (zrv x0), some (zrv x1), some (zrv x2), some (zrv x3), some (zrv x4), some (zI x5), none, none, none]) rfl rfl (zmS291_1511 hk16 _ _ _ _ _ _ _ _ _ _ _ _ _ H)
  · refine zA_brF (c := (zi h p35 i36 j37) = 0) rfl rfl rfl c42 ?_
    refine zA_push rfl rfl zkk5 ?_
    refine zA_go rfl rfl ?_
    exact zA_tr (L := [some (zrv x0), some (zrv x1), some (zrv x2), some (zrv x3), some (zrv x4), some (zI x5), none, none, none]) rfl rfl (zmS291_1511 hk16 _ _ _ _ _ _ _ _ _ _ _ _ _ H)
def zm291_1446 (k16 : zq → zq → zq → zq → zq → Int32 → zH → zRs Int32) (x0 : zq) (x1 : zq) (x2 : zq) (x3 : zq) (x4 : zq) (x5 : Int32) (h : zH) : zRs Int32 :=
  zai x0 (x5 + (1 : Int32)) h fun p21 i22 j23 =>
  zai x0 (x5 + (2 : Int32)) h fun p28 i29 j30 =>
  zb2 (zm272 x1 (zi h p21 i22 j23) (zi h p28 i29 j30) x3 h) fun x36 h35 =>
  zai x0 (x5 + (1 : Int32)) h35 fun p37 i38 j39 =>
  zai x0 (x5 + (2 : Int32)) h35 fun p44 i45 j46 =>
  zob 12 x2 fun p51 i52 =>
  zb (zm217 x2 (zi h35 p37 i38 j39) (zi h35 p44 i45 j46) h35) fun x56 h55 =>
  zb (zm137 x2 h55) fun x58 h57 =>
  if x58 = x36 then
    if x36 = 0 then
      zar 3 x3 (0 : Int32) h57 fun p61 i62 j63 =>
      if (lg_cmp (zl h57 p61 i62 j63) (x56.toInt64)) = 0 then
        zm291_2349 k16 x0 x1 x2 x3 x4 x5 h57
      else
        some (.inl (0 : Int32), h57)
    else
      zm291_2349 k16 x0 x1 x2 x3 x4 x5 h57
  else
    some (.inl (0 : Int32), h57)
theorem zmS291_1446 {k16 : zq → zq → zq → zq → zq → Int32 → zH → zRs Int32} (hk16 : ∀ (x0 : zq) (x1 : zq) (x2 : zq) (x3 : zq) (x4 : zq) (x5 : Int32) (h : zH) (r : Int32 ⊕ Nat) (h' : zH), k16 x0 x1 x2 x3 x4 x5 h = some (r, h') → zAt 291 16 [some (zrv x0), some (zrv x1), some (zrv x2), some (zrv x3), some (zrv x4), some (zI x5), none, none, none] [] h (zoI r) h') : ∀ (x0 : zq) (x1 : zq) (x2 : zq) (x3 : zq) (x4 : zq) (x5 : Int32) (h : zH) (r : Int32 ⊕ Nat) (h' : zH), zm291_1446 k16 x0 x1 x2 x3 x4 x5 h = some (r, h') → zAt 291 1446 [some (zrv x0), some (zrv x1), some (zrv x2), some (zrv x3), some (zrv x4), some (zI x5), none, none, none] [] h (zoI r) h' := by
  intro x0 x1 x2 x3 x4 x5 h r h' H
  unfold zm291_1446 at H
  refine zA_aldn rfl rfl rfl ?_
  refine zA_aldn rfl rfl rfl ?_
  refine zA_ld rfl rfl rfl ?_
  refine zA_push rfl rfl zkk5 ?_
  refine zA_st (st' := [zI (x5 + (1 : Int32)), zrv x0, zrv x1]) rfl rfl rfl rfl ?_
  obtain ⟨p21, i22, j23, e24, c25, c26, e27, H⟩ := zai_e H
  refine zA_ial rfl rfl e24 c25 c26 e27 ?_
  refine zA_aldn rfl rfl rfl ?_
  refine zA_ld rfl rfl rfl ?_
  refine zA_push rfl rfl zkk23 ?_
  refine zA_st (st' := [zI (x5 + (2 : Int32)), zrv x0, zI (zi h p21 i22 j23), zrv x1]) rfl rfl rfl rfl ?_
  obtain ⟨p28, i29, j30, e31, c32, c33, e34, H⟩ := zai_e H
  refine zA_ial rfl rfl e31 c32 c33 e34 ?_
  refine zA_aldn rfl rfl rfl ?_
  obtain ⟨x36, h35, C, H⟩ := zb2_e H
  refine zA_callV (as := [zrv x1, zI (zi h p21 i22 j23), zI (zi h p28 i29 j30), zrv x3]) (st' := []) rfl rfl rfl rfl rfl (zmE272 _ _ _ _) rfl (zmS272 C) ?_
  refine zA_ist2 rfl rfl rfl (zset1 (L' := [some (zrv x0), some (zrv x1), some (zrv x2), some (zrv x3), some (zrv x4), some (zI x5), some (zI x36), none, none]) rfl rfl (zpcV rfl rfl)) ?_
  refine zA_aldn rfl rfl rfl ?_
  refine zA_aldn rfl rfl rfl ?_
  refine zA_ld rfl rfl rfl ?_
  refine zA_push rfl rfl zkk5 ?_
  refine zA_st (st' := [zI (x5 + (1 : Int32)), zrv x0, zrv x2]) rfl rfl rfl rfl ?_
  obtain ⟨p37, i38, j39, e40, c41, c42, e43, H⟩ := zai_e H
  refine zA_ial rfl rfl e40 c41 c42 e43 ?_
  refine zA_aldn rfl rfl rfl ?_
  refine zA_ld rfl rfl rfl ?_
  refine zA_push rfl rfl zkk23 ?_
  refine zA_st (st' := [zI (x5 + (2 : Int32)), zrv x0, zI (zi h35 p37 i38 j39), zrv x2]) rfl rfl rfl rfl ?_
  obtain ⟨p44, i45, j46, e47, c48, c49, e50, H⟩ := zai_e H
  refine zA_ial rfl rfl e47 c48 c49 e50 ?_
  obtain ⟨p51, i52, e53, c54, H⟩ := zob_e H
  rcases zb_e H with ⟨x56, h55, C, H⟩ | ⟨E, h55, C, H⟩
  · refine zA_callV (as := [zrv x2, zI (zi h35 p37 i38 j39), zI (zi h35 p44 i45 j46)]) (st' := []) rfl rfl rfl (zrcv_Q e53 c54) rfl (zmE217 _ _ _) rfl (zmS217 C) ?_
    refine zA_ist2 rfl rfl rfl (zset1 (L' := [some (zrv x0), some (zrv x1), some (zrv x2), some (zrv x3), some (zrv x4), some (zI x5), some (zI x36), some (zI x56), none]) rfl rfl (zpcV rfl rfl)) ?_
    refine zA_aldn rfl rfl rfl ?_
    rcases zb_e H with ⟨x58, h57, C, H⟩ | ⟨E, h57, C, H⟩
    · refine zA_callV (as := [zrv x2]) (st' := []) rfl rfl rfl (zrcv_Q e53 c54) rfl (zmE137 _) rfl (zmS137 C) ?_
      refine zA_ld rfl rfl rfl ?_
      rcases zite_e H with ⟨c59, H⟩ | ⟨c59, H⟩
      · refine zA_brT (c := x58 = x36) rfl rfl rfl c59 ?_
        refine zA_ld rfl rfl rfl ?_
        rcases zite_e H with ⟨c60, H⟩ | ⟨c60, H⟩
        · refine zA_brF' (c := x36 = 0) rfl rfl rfl c60 ?_
          refine zA_aldn rfl rfl rfl ?_
          refine zA_push rfl rfl zkk7 ?_
          obtain ⟨p61, i62, j63, e64, c65, c66, e67, H⟩ := zar_e H
          refine zA_lal rfl rfl e64 c65 c66 e67 ?_
          refine zA_ld rfl rfl rfl ?_
          refine zA_st (st' := [zJ (x56.toInt64), zJ (zl h57 p61 i62 j63)]) rfl rfl rfl rfl ?_
          refine zA_st (st' := [zI (lg_cmp (zl h57 p61 i62 j63) (x56.toInt64))]) rfl rfl rfl rfl ?_
          rcases zite_e H with ⟨c68, H⟩ | ⟨c68, H⟩
          · refine zA_brT (c := (lg_cmp (zl h57 p61 i62 j63) (x56.toInt64)) = 0) rfl rfl rfl c68 ?_
            refine zA_tr (L := [some (zrv x0), some (zrv x1), some (zrv x2), some (zrv x3), some (zrv x4), some (zI x5), none, none, none]) rfl rfl ?_
            refine zA_go rfl rfl ?_
            exact zA_tr (L := [some (zrv x0), some (zrv x1), some (zrv x2), some (zrv x3), some (zrv x4), some (zI x5), none, none, none]) rfl rfl (zmS291_2349 hk16 _ _ _ _ _ _ _ _ _ H)
          · refine zA_brF (c := (lg_cmp (zl h57 p61 i62 j63) (x56.toInt64)) = 0) rfl rfl rfl c68 ?_
            refine zA_push rfl rfl zkk7 ?_
            cases H
            exact zA_ret rfl (zret_Z (by decide))
        · refine zA_brT' (c := x36 = 0) rfl rfl rfl c60 ?_
          refine zA_tr (L := [some (zrv x0), some (zrv x1), some (zrv x2), some (zrv x3), some (zrv x4), some (zI x5), none, none, none]) rfl rfl ?_
          refine zA_go rfl rfl ?_
          exact zA_tr (L := [some (zrv x0), some (zrv x1), some (zrv x2), some (zrv x3), some (zrv x4), some (zI x5), none, none, none]) rfl rfl (zmS291_2349 hk16 _ _ _ _ _ _ _ _ _ H)
      · refine zA_brF (c := x58 = x36) rfl rfl rfl c59 ?_
        refine zA_push rfl rfl zkk7 ?_
        cases H
        exact zA_ret rfl (zret_Z (by decide))
    · cases H
      exact zA_callX (as := [zrv x2]) (st' := []) rfl rfl (zrcv_Q e53 c54) rfl (zmE137 _) rfl rfl rfl (zmS137 C)
  · cases H
    exact zA_callX (as := [zrv x2, zI (zi h35 p37 i38 j39), zI (zi h35 p44 i45 j46)]) (st' := []) rfl rfl (zrcv_Q e53 c54) rfl (zmE217 _ _ _) rfl rfl rfl (zmS217 C)
def zm291_1401 (k16 : zq → zq → zq → zq → zq → Int32 → zH → zRs Int32) (x0 : zq) (x1 : zq) (x2 : zq) (x3 : zq) (x4 : zq) (x5 : Int32) (h : zH) : zRs Int32 :=
  zai x0 (x5 + (1 : Int32)) h fun p21 i22 j23 =>
  zai x0 (x5 + (2 : Int32)) h fun p28 i29 j30 =>
  zb2 (zm271 x1 (zi h p21 i22 j23) (zi h p28 i29 j30) x3 h) fun x36 h35 =>
  zai x0 (x5 + (1 : Int32)) h35 fun p37 i38 j39 =>
  zai x0 (x5 + (2 : Int32)) h35 fun p44 i45 j46 =>
  zob 12 x2 fun p51 i52 =>
  zb (zm216 x2 (zi h35 p37 i38 j39) (zi h35 p44 i45 j46) h35) fun x56 h55 =>
  zb (zm137 x2 h55) fun x58 h57 =>
  if x58 = x36 then
    if x36 = 0 then
      zar 3 x3 (0 : Int32) h57 fun p61 i62 j63 =>
      if (lg_cmp (zl h57 p61 i62 j63) (x56.toInt64)) = 0 then
        zm291_2349 k16 x0 x1 x2 x3 x4 x5 h57
      else
        some (.inl (0 : Int32), h57)
    else
      zm291_2349 k16 x0 x1 x2 x3 x4 x5 h57
  else
    some (.inl (0 : Int32), h57)
theorem zmS291_1401 {k16 : zq → zq → zq → zq → zq → Int32 → zH → zRs Int32} (hk16 : ∀ (x0 : zq) (x1 : zq) (x2 : zq) (x3 : zq) (x4 : zq) (x5 : Int32) (h : zH) (r : Int32 ⊕ Nat) (h' : zH), k16 x0 x1 x2 x3 x4 x5 h = some (r, h') → zAt 291 16 [some (zrv x0), some (zrv x1), some (zrv x2), some (zrv x3), some (zrv x4), some (zI x5), none, none, none] [] h (zoI r) h') : ∀ (x0 : zq) (x1 : zq) (x2 : zq) (x3 : zq) (x4 : zq) (x5 : Int32) (h : zH) (r : Int32 ⊕ Nat) (h' : zH), zm291_1401 k16 x0 x1 x2 x3 x4 x5 h = some (r, h') → zAt 291 1401 [some (zrv x0), some (zrv x1), some (zrv x2), some (zrv x3), some (zrv x4), some (zI x5), none, none, none] [] h (zoI r) h' := by
  intro x0 x1 x2 x3 x4 x5 h r h' H
  unfold zm291_1401 at H
  refine zA_aldn rfl rfl rfl ?_
  refine zA_aldn rfl rfl rfl ?_
  refine zA_ld rfl rfl rfl ?_
  refine zA_push rfl rfl zkk5 ?_
  refine zA_st (st' := [zI (x5 + (1 : Int32)), zrv x0, zrv x1]) rfl rfl rfl rfl ?_
  obtain ⟨p21, i22, j23, e24, c25, c26, e27, H⟩ := zai_e H
  refine zA_ial rfl rfl e24 c25 c26 e27 ?_
  refine zA_aldn rfl rfl rfl ?_
  refine zA_ld rfl rfl rfl ?_
  refine zA_push rfl rfl zkk23 ?_
  refine zA_st (st' := [zI (x5 + (2 : Int32)), zrv x0, zI (zi h p21 i22 j23), zrv x1]) rfl rfl rfl rfl ?_
  obtain ⟨p28, i29, j30, e31, c32, c33, e34, H⟩ := zai_e H
  refine zA_ial rfl rfl e31 c32 c33 e34 ?_
  refine zA_aldn rfl rfl rfl ?_
  obtain ⟨x36, h35, C, H⟩ := zb2_e H
  refine zA_callV (as := [zrv x1, zI (zi h p21 i22 j23), zI (zi h p28 i29 j30), zrv x3]) (st' := []) rfl rfl rfl rfl rfl (zmE271 _ _ _ _) rfl (zmS271 C) ?_
  refine zA_ist2 rfl rfl rfl (zset1 (L' := [some (zrv x0), some (zrv x1), some (zrv x2), some (zrv x3), some (zrv x4), some (zI x5), some (zI x36), none, none]) rfl rfl (zpcV rfl rfl)) ?_
  refine zA_aldn rfl rfl rfl ?_
  refine zA_aldn rfl rfl rfl ?_
  refine zA_ld rfl rfl rfl ?_
  refine zA_push rfl rfl zkk5 ?_
  refine zA_st (st' := [zI (x5 + (1 : Int32)), zrv x0, zrv x2]) rfl rfl rfl rfl ?_
  obtain ⟨p37, i38, j39, e40, c41, c42, e43, H⟩ := zai_e H
  refine zA_ial rfl rfl e40 c41 c42 e43 ?_
  refine zA_aldn rfl rfl rfl ?_
  refine zA_ld rfl rfl rfl ?_
  refine zA_push rfl rfl zkk23 ?_
  refine zA_st (st' := [zI (x5 + (2 : Int32)), zrv x0, zI (zi h35 p37 i38 j39), zrv x2]) rfl rfl rfl rfl ?_
  obtain ⟨p44, i45, j46, e47, c48, c49, e50, H⟩ := zai_e H
  refine zA_ial rfl rfl e47 c48 c49 e50 ?_
  obtain ⟨p51, i52, e53, c54, H⟩ := zob_e H
  rcases zb_e H with ⟨x56, h55, C, H⟩ | ⟨E, h55, C, H⟩
  · refine zA_callV (as := [zrv x2, zI (zi h35 p37 i38 j39), zI (zi h35 p44 i45 j46)]) (st' := []) rfl rfl rfl (zrcv_Q e53 c54) rfl (zmE216 _ _ _) rfl (zmS216 C) ?_
    refine zA_ist2 rfl rfl rfl (zset1 (L' := [some (zrv x0), some (zrv x1), some (zrv x2), some (zrv x3), some (zrv x4), some (zI x5), some (zI x36), some (zI x56), none]) rfl rfl (zpcV rfl rfl)) ?_
    refine zA_aldn rfl rfl rfl ?_
    rcases zb_e H with ⟨x58, h57, C, H⟩ | ⟨E, h57, C, H⟩
    · refine zA_callV (as := [zrv x2]) (st' := []) rfl rfl rfl (zrcv_Q e53 c54) rfl (zmE137 _) rfl (zmS137 C) ?_
      refine zA_ld rfl rfl rfl ?_
      rcases zite_e H with ⟨c59, H⟩ | ⟨c59, H⟩
      · refine zA_brT (c := x58 = x36) rfl rfl rfl c59 ?_
        refine zA_ld rfl rfl rfl ?_
        rcases zite_e H with ⟨c60, H⟩ | ⟨c60, H⟩
        · refine zA_brF' (c := x36 = 0) rfl rfl rfl c60 ?_
          refine zA_aldn rfl rfl rfl ?_
          refine zA_push rfl rfl zkk7 ?_
          obtain ⟨p61, i62, j63, e64, c65, c66, e67, H⟩ := zar_e H
          refine zA_lal rfl rfl e64 c65 c66 e67 ?_
          refine zA_ld rfl rfl rfl ?_
          refine zA_st (st' := [zJ (x56.toInt64), zJ (zl h57 p61 i62 j63)]) rfl rfl rfl rfl ?_
          refine zA_st (st' := [zI (lg_cmp (zl h57 p61 i62 j63) (x56.toInt64))]) rfl rfl rfl rfl ?_
          rcases zite_e H with ⟨c68, H⟩ | ⟨c68, H⟩
          · refine zA_brT (c := (lg_cmp (zl h57 p61 i62 j63) (x56.toInt64)) = 0) rfl rfl rfl c68 ?_
            refine zA_tr (L := [some (zrv x0), some (zrv x1), some (zrv x2), some (zrv x3), some (zrv x4), some (zI x5), none, none, none]) rfl rfl ?_
            refine zA_go rfl rfl ?_
            exact zA_tr (L := [some (zrv x0), some (zrv x1), some (zrv x2), some (zrv x3), some (zrv x4), some (zI x5), none, none, none]) rfl rfl (zmS291_2349 hk16 _ _ _ _ _ _ _ _ _ H)
          · refine zA_brF (c := (lg_cmp (zl h57 p61 i62 j63) (x56.toInt64)) = 0) rfl rfl rfl c68 ?_
            refine zA_push rfl rfl zkk7 ?_
            cases H
            exact zA_ret rfl (zret_Z (by decide))
        · refine zA_brT' (c := x36 = 0) rfl rfl rfl c60 ?_
          refine zA_tr (L := [some (zrv x0), some (zrv x1), some (zrv x2), some (zrv x3), some (zrv x4), some (zI x5), none, none, none]) rfl rfl ?_
          refine zA_go rfl rfl ?_
          exact zA_tr (L := [some (zrv x0), some (zrv x1), some (zrv x2), some (zrv x3), some (zrv x4), some (zI x5), none, none, none]) rfl rfl (zmS291_2349 hk16 _ _ _ _ _ _ _ _ _ H)
      · refine zA_brF (c := x58 = x36) rfl rfl rfl c59 ?_
        refine zA_push rfl rfl zkk7 ?_
        cases H
        exact zA_ret rfl (zret_Z (by decide))
    · cases H
      exact zA_callX (as := [zrv x2]) (st' := []) rfl rfl (zrcv_Q e53 c54) rfl (zmE137 _) rfl rfl rfl (zmS137 C)
  · cases H
    exact zA_callX (as := [zrv x2, zI (zi h35 p37 i38 j39), zI (zi h35 p44 i45 j46)]) (st' := []) rfl rfl (zrcv_Q e53 c54) rfl (zmE216 _ _ _) rfl rfl rfl (zmS216 C)
def zm291_1345 (k16 : zq → zq → zq → zq → zq → Int32 → zH → zRs Int32) (x0 : zq) (x1 : zq) (x2 : zq) (x3 : zq) (x4 : zq) (x5 : Int32) (h : zH) : zRs Int32 :=
  zai x0 (x5 + (1 : Int32)) h fun p21 i22 j23 =>
  zai x0 (x5 + (2 : Int32)) h fun p28 i29 j30 =>
  zb2 (zm270 x1 (zi h p21 i22 j23) (zi h p28 i29 j30) x4 h) fun x36 h35 =>
  zai x0 (x5 + (1 : Int32)) h35 fun p37 i38 j39 =>
  zai x0 (x5 + (2 : Int32)) h35 fun p44 i45 j46 =>
  zob 12 x2 fun p51 i52 =>
  zb (zm215 x2 (zi h35 p37 i38 j39) (zi h35 p44 i45 j46) h35) fun x56 h55 =>
  zb (zm137 x2 h55) fun x58 h57 =>
  if x58 = x36 then
    if x36 = 0 then
      zar 4 x4 (0 : Int32) h57 fun p61 i62 j63 =>
      if (Op.cmpValue (FP.dcmp (zd h57 p61 i62 j63) x56) .l) = 0 then
        zm291_2349 k16 x0 x1 x2 x3 x4 x5 h57
      else
        zar 4 x4 (0 : Int32) h57 fun p69 i70 j71 =>
        zar 4 x4 (0 : Int32) h57 fun p76 i77 j78 =>
        if (Op.cmpValue (FP.dcmp (zd h57 p69 i70 j71) (zd h57 p76 i77 j78)) .l) = 0 then
          some (.inl (0 : Int32), h57)
        else
          if (Op.cmpValue (FP.dcmp x56 x56) .l) = 0 then
            some (.inl (0 : Int32), h57)
          else
            zm291_2349 k16 x0 x1 x2 x3 x4 x5 h57
    else
      zm291_2349 k16 x0 x1 x2 x3 x4 x5 h57
  else
    some (.inl (0 : Int32), h57)
theorem zmS291_1345 {k16 : zq → zq → zq → zq → zq → Int32 → zH → zRs Int32} (hk16 : ∀ (x0 : zq) (x1 : zq) (x2 : zq) (x3 : zq) (x4 : zq) (x5 : Int32) (h : zH) (r : Int32 ⊕ Nat) (h' : zH), k16 x0 x1 x2 x3 x4 x5 h = some (r, h') → zAt 291 16 [some (zrv x0), some (zrv x1), some (zrv x2), some (zrv x3), some (zrv x4), some (zI x5), none, none, none] [] h (zoI r) h') : ∀ (x0 : zq) (x1 : zq) (x2 : zq) (x3 : zq) (x4 : zq) (x5 : Int32) (h : zH) (r : Int32 ⊕ Nat) (h' : zH), zm291_1345 k16 x0 x1 x2 x3 x4 x5 h = some (r, h') → zAt 291 1345 [some (zrv x0), some (zrv x1), some (zrv x2), some (zrv x3), some (zrv x4), some (zI x5), none, none, none] [] h (zoI r) h' := by
  intro x0 x1 x2 x3 x4 x5 h r h' H
  unfold zm291_1345 at H
  refine zA_aldn rfl rfl rfl ?_
  refine zA_aldn rfl rfl rfl ?_
  refine zA_ld rfl rfl rfl ?_
  refine zA_push rfl rfl zkk5 ?_
  refine zA_st (st' := [zI (x5 + (1 : Int32)), zrv x0, zrv x1]) rfl rfl rfl rfl ?_
  obtain ⟨p21, i22, j23, e24, c25, c26, e27, H⟩ := zai_e H
  refine zA_ial rfl rfl e24 c25 c26 e27 ?_
  refine zA_aldn rfl rfl rfl ?_
  refine zA_ld rfl rfl rfl ?_
  refine zA_push rfl rfl zkk23 ?_
  refine zA_st (st' := [zI (x5 + (2 : Int32)), zrv x0, zI (zi h p21 i22 j23), zrv x1]) rfl rfl rfl rfl ?_
  obtain ⟨p28, i29, j30, e31, c32, c33, e34, H⟩ := zai_e H
  refine zA_ial rfl rfl e31 c32 c33 e34 ?_
  refine zA_ald rfl rfl rfl ?_
  obtain ⟨x36, h35, C, H⟩ := zb2_e H
  refine zA_callV (as := [zrv x1, zI (zi h p21 i22 j23), zI (zi h p28 i29 j30), zrv x4]) (st' := []) rfl rfl rfl rfl rfl (zmE270 _ _ _ _) rfl (zmS270 C) ?_
  refine zA_ist2 rfl rfl rfl (zset1 (L' := [some (zrv x0), some (zrv x1), some (zrv x2), some (zrv x3), some (zrv x4), some (zI x5), some (zI x36), none, none]) rfl rfl (zpcV rfl rfl)) ?_
  refine zA_aldn rfl rfl rfl ?_
  refine zA_aldn rfl rfl rfl ?_
  refine zA_ld rfl rfl rfl ?_
  refine zA_push rfl rfl zkk5 ?_
  refine zA_st (st' := [zI (x5 + (1 : Int32)), zrv x0, zrv x2]) rfl rfl rfl rfl ?_
  obtain ⟨p37, i38, j39, e40, c41, c42, e43, H⟩ := zai_e H
  refine zA_ial rfl rfl e40 c41 c42 e43 ?_
  refine zA_aldn rfl rfl rfl ?_
  refine zA_ld rfl rfl rfl ?_
  refine zA_push rfl rfl zkk23 ?_
  refine zA_st (st' := [zI (x5 + (2 : Int32)), zrv x0, zI (zi h35 p37 i38 j39), zrv x2]) rfl rfl rfl rfl ?_
  obtain ⟨p44, i45, j46, e47, c48, c49, e50, H⟩ := zai_e H
  refine zA_ial rfl rfl e47 c48 c49 e50 ?_
  obtain ⟨p51, i52, e53, c54, H⟩ := zob_e H
  rcases zb_e H with ⟨x56, h55, C, H⟩ | ⟨E, h55, C, H⟩
  · refine zA_callV (as := [zrv x2, zI (zi h35 p37 i38 j39), zI (zi h35 p44 i45 j46)]) (st' := []) rfl rfl rfl (zrcv_Q e53 c54) rfl (zmE215 _ _ _) rfl (zmS215 C) ?_
    refine zA_dst2 rfl rfl rfl (zset2 (L' := [some (zrv x0), some (zrv x1), some (zrv x2), some (zrv x3), some (zrv x4), some (zI x5), some (zI x36), some (zD x56), none]) rfl rfl (zpcV rfl rfl) rfl) ?_
    refine zA_aldn rfl rfl rfl ?_
    rcases zb_e H with ⟨x58, h57, C, H⟩ | ⟨E, h57, C, H⟩
    · refine zA_callV (as := [zrv x2]) (st' := []) rfl rfl rfl (zrcv_Q e53 c54) rfl (zmE137 _) rfl (zmS137 C) ?_
      refine zA_ld rfl rfl rfl ?_
      rcases zite_e H with ⟨c59, H⟩ | ⟨c59, H⟩
      · refine zA_brT (c := x58 = x36) rfl rfl rfl c59 ?_
        refine zA_ld rfl rfl rfl ?_
        rcases zite_e H with ⟨c60, H⟩ | ⟨c60, H⟩
        · refine zA_brF' (c := x36 = 0) rfl rfl rfl c60 ?_
          refine zA_ald rfl rfl rfl ?_
          refine zA_push rfl rfl zkk7 ?_
          obtain ⟨p61, i62, j63, e64, c65, c66, e67, H⟩ := zar_e H
          refine zA_dal rfl rfl e64 c65 c66 e67 ?_
          refine zA_dld rfl rfl rfl ?_
          refine zA_st (st' := [zI (Op.cmpValue (FP.dcmp (zd h57 p61 i62 j63) x56) .l)]) rfl rfl rfl rfl ?_
          rcases zite_e H with ⟨c68, H⟩ | ⟨c68, H⟩
          · refine zA_brT (c := (Op.cmpValue (FP.dcmp (zd h57 p61 i62 j63) x56) .l) = 0) rfl rfl rfl c68 ?_
            refine zA_tr (L := [some (zrv x0), some (zrv x1), some (zrv x2), some (zrv x3), some (zrv x4), some (zI x5), none, none, none]) rfl rfl ?_
            refine zA_go rfl rfl ?_
            exact zA_tr (L := [some (zrv x0), some (zrv x1), some (zrv x2), some (zrv x3), some (zrv x4), some (zI x5), none, none, none]) rfl rfl (zmS291_2349 hk16 _ _ _ _ _ _ _ _ _ H)
          · refine zA_brF (c := (Op.cmpValue (FP.dcmp (zd h57 p61 i62 j63) x56) .l) = 0) rfl rfl rfl c68 ?_
            refine zA_ald rfl rfl rfl ?_
            refine zA_push rfl rfl zkk7 ?_
            obtain ⟨p69, i70, j71, e72, c73, c74, e75, H⟩ := zar_e H
            refine zA_dal rfl rfl e72 c73 c74 e75 ?_
            refine zA_ald rfl rfl rfl ?_
            refine zA_push rfl rfl zkk7 ?_
            obtain ⟨p76, i77, j78, e79, c80, c81, e82, H⟩ := zar_e H
            refine zA_dal rfl rfl e79 c80 c81 e82 ?_
            refine zA_st (st' := [zI (Op.cmpValue (FP.dcmp (zd h57 p69 i70 j71) (zd h57 p76 i77 j78)) .l)]) rfl rfl rfl rfl ?_
            rcases zite_e H with ⟨c83, H⟩ | ⟨c83, H⟩
            · refine zA_brT (c := (Op.cmpValue (FP.dcmp (zd h57 p69 i70 j71) (zd h57 p76 i77 j78)) .l) = 0) rfl rfl rfl c83 ?_
              refine zA_tr (L := [none, none, none, none, none, none, none, none, none]) rfl rfl ?_
              refine zA_push rfl rfl zkk7 ?_
              cases H
              exact zA_ret rfl (zret_Z (by decide))
            · refine zA_brF (c := (Op.cmpValue (FP.dcmp (zd h57 p69 i70 j71) (zd h57 p76 i77 j78)) .l) = 0) rfl rfl rfl c83 ?_
              refine zA_dld rfl rfl rfl ?_
              refine zA_dld rfl rfl rfl ?_
              refine zA_st (st' := [zI (Op.cmpValue (FP.dcmp x56 x56) .l)]) rfl rfl rfl rfl ?_
              rcases zite_e H with ⟨c84, H⟩ | ⟨c84, H⟩
              · refine zA_brF' (c := (Op.cmpValue (FP.dcmp x56 x56) .l) = 0) rfl rfl rfl c84 ?_
                refine zA_tr (L := [none, none, none, none, none, none, none, none, none]) rfl rfl ?_
                refine zA_push rfl rfl zkk7 ?_
                cases H
                exact zA_ret rfl (zret_Z (by decide))
              · refine zA_brT' (c := (Op.cmpValue (FP.dcmp x56 x56) .l) = 0) rfl rfl rfl c84 ?_
                refine zA_tr (L := [some (zrv x0), some (zrv x1), some (zrv x2), some (zrv x3), some (zrv x4), some (zI x5), none, none, none]) rfl rfl ?_
                refine zA_go rfl rfl ?_
                exact zA_tr (L := [some (zrv x0), some (zrv x1), some (zrv x2), some (zrv x3), some (zrv x4), some (zI x5), none, none, none]) rfl rfl (zmS291_2349 hk16 _ _ _ _ _ _ _ _ _ H)
        · refine zA_brT' (c := x36 = 0) rfl rfl rfl c60 ?_
          refine zA_tr (L := [some (zrv x0), some (zrv x1), some (zrv x2), some (zrv x3), some (zrv x4), some (zI x5), none, none, none]) rfl rfl ?_
          refine zA_go rfl rfl ?_
          exact zA_tr (L := [some (zrv x0), some (zrv x1), some (zrv x2), some (zrv x3), some (zrv x4), some (zI x5), none, none, none]) rfl rfl (zmS291_2349 hk16 _ _ _ _ _ _ _ _ _ H)
      · refine zA_brF (c := x58 = x36) rfl rfl rfl c59 ?_
        refine zA_push rfl rfl zkk7 ?_
        cases H
        exact zA_ret rfl (zret_Z (by decide))
    · cases H
      exact zA_callX (as := [zrv x2]) (st' := []) rfl rfl (zrcv_Q e53 c54) rfl (zmE137 _) rfl rfl rfl (zmS137 C)
  · cases H
    exact zA_callX (as := [zrv x2, zI (zi h35 p37 i38 j39), zI (zi h35 p44 i45 j46)]) (st' := []) rfl rfl (zrcv_Q e53 c54) rfl (zmE215 _ _ _) rfl rfl rfl (zmS215 C)
def zm291_1320 (k16 : zq → zq → zq → zq → zq → Int32 → zH → zRs Int32) (x0 : zq) (x1 : zq) (x2 : zq) (x3 : zq) (x4 : zq) (x5 : Int32) (x6 : Int32) (s0 : zq) (s1 : Int32) (s2 : Int32) (s3 : Int32) (s4 : Int32) (h : zH) : zRs Int32 :=
  zai x0 (x5 + (5 : Int32)) h fun p21 i22 j23 =>
  zob 12 s0 fun p28 i29 =>
  zb (zm209 s0 s1 s2 s3 s4 (zi h p21 i22 j23) h) fun x33 h32 =>
  zob 12 x2 fun p34 i35 =>
  zb (zm137 x2 h32) fun x39 h38 =>
  if x39 = x6 then
    if x6 = 0 then
      zar 3 x3 (0 : Int32) h38 fun p42 i43 j44 =>
      if (lg_cmp (zl h38 p42 i43 j44) (x33.toInt64)) = 0 then
        zm291_2349 k16 x0 x1 x2 x3 x4 x5 h38
      else
        some (.inl (0 : Int32), h38)
    else
      zm291_2349 k16 x0 x1 x2 x3 x4 x5 h38
  else
    some (.inl (0 : Int32), h38)
theorem zmS291_1320 {k16 : zq → zq → zq → zq → zq → Int32 → zH → zRs Int32} (hk16 : ∀ (x0 : zq) (x1 : zq) (x2 : zq) (x3 : zq) (x4 : zq) (x5 : Int32) (h : zH) (r : Int32 ⊕ Nat) (h' : zH), k16 x0 x1 x2 x3 x4 x5 h = some (r, h') → zAt 291 16 [some (zrv x0), some (zrv x1), some (zrv x2), some (zrv x3), some (zrv x4), some (zI x5), none, none, none] [] h (zoI r) h') : ∀ (x0 : zq) (x1 : zq) (x2 : zq) (x3 : zq) (x4 : zq) (x5 : Int32) (x6 : Int32) (s0 : zq) (s1 : Int32) (s2 : Int32) (s3 : Int32) (s4 : Int32) (h : zH) (r : Int32 ⊕ Nat) (h' : zH), zm291_1320 k16 x0 x1 x2 x3 x4 x5 x6 s0 s1 s2 s3 s4 h = some (r, h') → zAt 291 1320 [some (zrv x0), some (zrv x1), some (zrv x2), some (zrv x3), some (zrv x4), some (zI x5), some (zI x6), none, none] [zI s4, zI s3, zI s2, zI s1, zrv s0] h (zoI r) h' := by
  intro x0 x1 x2 x3 x4 x5 x6 s0 s1 s2 s3 s4 h r h' H
  unfold zm291_1320 at H
  refine zA_aldn rfl rfl rfl ?_
  refine zA_ld rfl rfl rfl ?_
  refine zA_push rfl rfl zkk20 ?_
  refine zA_st (st' := [zI (x5 + (5 : Int32)), zrv x0, zI s4, zI s3, zI s2, zI s1, zrv s0]) rfl rfl rfl rfl ?_
  obtain ⟨p21, i22, j23, e24, c25, c26, e27, H⟩ := zai_e H
  refine zA_ial rfl rfl e24 c25 c26 e27 ?_
  obtain ⟨p28, i29, e30, c31, H⟩ := zob_e H
  rcases zb_e H with ⟨x33, h32, C, H⟩ | ⟨E, h32, C, H⟩
  · refine zA_callV (as := [zrv s0, zI s1, zI s2, zI s3, zI s4, zI (zi h p21 i22 j23)]) (st' := []) rfl rfl rfl (zrcv_Q e30 c31) rfl (zmE209 _ _ _ _ _ _) rfl (zmS209 C) ?_
    refine zA_ist2 rfl rfl rfl (zset1 (L' := [some (zrv x0), some (zrv x1), some (zrv x2), some (zrv x3), some (zrv x4), some (zI x5), some (zI x6), some (zI x33), none]) rfl rfl (zpcV rfl rfl)) ?_
    refine zA_aldn rfl rfl rfl ?_
    obtain ⟨p34, i35, e36, c37, H⟩ := zob_e H
    rcases zb_e H with ⟨x39, h38, C, H⟩ | ⟨E, h38, C, H⟩
    · refine zA_callV (as := [zrv x2]) (st' := []) rfl rfl rfl (zrcv_Q e36 c37) rfl (zmE137 _) rfl (zmS137 C) ?_
      refine zA_ld rfl rfl rfl ?_
      rcases zite_e H with ⟨c40, H⟩ | ⟨c40, H⟩
      · refine zA_brT (c := x39 = x6) rfl rfl rfl c40 ?_
        refine zA_ld rfl rfl rfl ?_
        rcases zite_e H with ⟨c41, H⟩ | ⟨c41, H⟩
        · refine zA_brF' (c := x6 = 0) rfl rfl rfl c41 ?_
          refine zA_aldn rfl rfl rfl ?_
          refine zA_push rfl rfl zkk7 ?_
          obtain ⟨p42, i43, j44, e45, c46, c47, e48, H⟩ := zar_e H
          refine zA_lal rfl rfl e45 c46 c47 e48 ?_
          refine zA_ld rfl rfl rfl ?_
          refine zA_st (st' := [zJ (x33.toInt64), zJ (zl h38 p42 i43 j44)]) rfl rfl rfl rfl ?_
          refine zA_st (st' := [zI (lg_cmp (zl h38 p42 i43 j44) (x33.toInt64))]) rfl rfl rfl rfl ?_
          rcases zite_e H with ⟨c49, H⟩ | ⟨c49, H⟩
          · refine zA_brT (c := (lg_cmp (zl h38 p42 i43 j44) (x33.toInt64)) = 0) rfl rfl rfl c49 ?_
            refine zA_tr (L := [some (zrv x0), some (zrv x1), some (zrv x2), some (zrv x3), some (zrv x4), some (zI x5), none, none, none]) rfl rfl ?_
            refine zA_go rfl rfl ?_
            exact zA_tr (L := [some (zrv x0), some (zrv x1), some (zrv x2), some (zrv x3), some (zrv x4), some (zI x5), none, none, none]) rfl rfl (zmS291_2349 hk16 _ _ _ _ _ _ _ _ _ H)
          · refine zA_brF (c := (lg_cmp (zl h38 p42 i43 j44) (x33.toInt64)) = 0) rfl rfl rfl c49 ?_
            refine zA_push rfl rfl zkk7 ?_
            cases H
            exact zA_ret rfl (zret_Z (by decide))
        · refine zA_brT' (c := x6 = 0) rfl rfl rfl c41 ?_
          refine zA_tr (L := [some (zrv x0), some (zrv x1), some (zrv x2), some (zrv x3), some (zrv x4), some (zI x5), none, none, none]) rfl rfl ?_
          refine zA_go rfl rfl ?_
          exact zA_tr (L := [some (zrv x0), some (zrv x1), some (zrv x2), some (zrv x3), some (zrv x4), some (zI x5), none, none, none]) rfl rfl (zmS291_2349 hk16 _ _ _ _ _ _ _ _ _ H)
      · refine zA_brF (c := x39 = x6) rfl rfl rfl c40 ?_
        refine zA_push rfl rfl zkk7 ?_
        cases H
        exact zA_ret rfl (zret_Z (by decide))
    · cases H
      exact zA_callX (as := [zrv x2]) (st' := []) rfl rfl (zrcv_Q e36 c37) rfl (zmE137 _) rfl rfl rfl (zmS137 C)
  · cases H
    exact zA_callX (as := [zrv s0, zI s1, zI s2, zI s3, zI s4, zI (zi h p21 i22 j23)]) (st' := []) rfl rfl (zrcv_Q e30 c31) rfl (zmE209 _ _ _ _ _ _) rfl rfl rfl (zmS209 C)
def zm291_1311 (k16 : zq → zq → zq → zq → zq → Int32 → zH → zRs Int32) (x0 : zq) (x1 : zq) (x2 : zq) (x3 : zq) (x4 : zq) (x5 : Int32) (x6 : Int32) (s0 : zq) (s1 : Int32) (s2 : Int32) (s3 : Int32) (h : zH) : zRs Int32 :=
  zai x0 (x5 + (4 : Int32)) h fun p21 i22 j23 =>
  if (zi h p21 i22 j23) = 0 then
    zm291_1320 k16 x0 x1 x2 x3 x4 x5 x6 s0 s1 s2 s3 (0 : Int32) h
  else
    zm291_1320 k16 x0 x1 x2 x3 x4 x5 x6 s0 s1 s2 s3 (1 : Int32) h
theorem zmS291_1311 {k16 : zq → zq → zq → zq → zq → Int32 → zH → zRs Int32} (hk16 : ∀ (x0 : zq) (x1 : zq) (x2 : zq) (x3 : zq) (x4 : zq) (x5 : Int32) (h : zH) (r : Int32 ⊕ Nat) (h' : zH), k16 x0 x1 x2 x3 x4 x5 h = some (r, h') → zAt 291 16 [some (zrv x0), some (zrv x1), some (zrv x2), some (zrv x3), some (zrv x4), some (zI x5), none, none, none] [] h (zoI r) h') : ∀ (x0 : zq) (x1 : zq) (x2 : zq) (x3 : zq) (x4 : zq) (x5 : Int32) (x6 : Int32) (s0 : zq) (s1 : Int32) (s2 : Int32) (s3 : Int32) (h : zH) (r : Int32 ⊕ Nat) (h' : zH), zm291_1311 k16 x0 x1 x2 x3 x4 x5 x6 s0 s1 s2 s3 h = some (r, h') → zAt 291 1311 [some (zrv x0), some (zrv x1), some (zrv x2), some (zrv x3), some (zrv x4), some (zI x5), some (zI x6), none, none] [zI s3, zI s2, zI s1, zrv s0] h (zoI r) h' := by
  intro x0 x1 x2 x3 x4 x5 x6 s0 s1 s2 s3 h r h' H
  unfold zm291_1311 at H
  refine zA_aldn rfl rfl rfl ?_
  refine zA_ld rfl rfl rfl ?_
  refine zA_push rfl rfl zkk9 ?_
  refine zA_st (st' := [zI (x5 + (4 : Int32)), zrv x0, zI s3, zI s2, zI s1, zrv s0]) rfl rfl rfl rfl ?_
  obtain ⟨p21, i22, j23, e24, c25, c26, e27, H⟩ := zai_e H
  refine zA_ial rfl rfl e24 c25 c26 e27 ?_
  rcases zite_e H with ⟨c28, H⟩ | ⟨c28, H⟩
  · refine zA_brT (c := (zi h p21 i22 j23) = 0) rfl rfl rfl c28 ?_
    refine zA_push rfl rfl zkk7 ?_
    exact zA_tr (L := [some (zrv x0), some (zrv x1), some (zrv x2), some (zrv x3), some (zrv x4), some (zI x5), some (zI x6), none, none]) rfl rfl (zmS291_1320 hk16 _ _ _ _ _ _ _ _ _ _ _ _ _ _ _ H)
  · refine zA_brF (c := (zi h p21 i22 j23) = 0) rfl rfl rfl c28 ?_
    refine zA_push rfl rfl zkk5 ?_
    refine zA_go rfl rfl ?_
    exact zA_tr (L := [some (zrv x0), some (zrv x1), some (zrv x2), some (zrv x3), some (zrv x4), some (zI x5), some (zI x6), none, none]) rfl rfl (zmS291_1320 hk16 _ _ _ _ _ _ _ _ _ _ _ _ _ _ _ H)
def zm291_1283 (k16 : zq → zq → zq → zq → zq → Int32 → zH → zRs Int32) (x0 : zq) (x1 : zq) (x2 : zq) (x3 : zq) (x4 : zq) (x5 : Int32) (s0 : zq) (s1 : Int32) (s2 : Int32) (s3 : Int32) (s4 : Int32) (h : zH) : zRs Int32 :=
  zai x0 (x5 + (5 : Int32)) h fun p21 i22 j23 =>
  zb2 (zm269 s0 s1 s2 s3 s4 (zi h p21 i22 j23) x3 h) fun x29 h28 =>
  zai x0 (x5 + (1 : Int32)) h28 fun p30 i31 j32 =>
  zai x0 (x5 + (2 : Int32)) h28 fun p37 i38 j39 =>
  zai x0 (x5 + (3 : Int32)) h28 fun p44 i45 j46 =>
  if (zi h28 p44 i45 j46) = 0 then
    zm291_1311 k16 x0 x1 x2 x3 x4 x5 x29 x2 (zi h28 p30 i31 j32) (zi h28 p37 i38 j39) (0 : Int32) h28
  else
    zm291_1311 k16 x0 x1 x2 x3 x4 x5 x29 x2 (zi h28 p30 i31 j32) (zi h28 p37 i38 j39) (1 : Int32) h28
theorem zmS291_1283 {k16 : zq → zq → zq → zq → zq → Int32 → zH → zRs Int32} (hk16 : ∀ (x0 : zq) (x1 : zq) (x2 : zq) (x3 : zq) (x4 : zq) (x5 : Int32) (h : zH) (r : Int32 ⊕ Nat) (h' : zH), k16 x0 x1 x2 x3 x4 x5 h = some (r, h') → zAt 291 16 [some (zrv x0), some (zrv x1), some (zrv x2), some (zrv x3), some (zrv x4), some (zI x5), none, none, none] [] h (zoI r) h') : ∀ (x0 : zq) (x1 : zq) (x2 : zq) (x3 : zq) (x4 : zq) (x5 : Int32) (s0 : zq) (s1 : Int32) (s2 : Int32) (s3 : Int32) (s4 : Int32) (h : zH) (r : Int32 ⊕ Nat) (h' : zH), zm291_1283 k16 x0 x1 x2 x3 x4 x5 s0 s1 s2 s3 s4 h = some (r, h') → zAt 291 1283 [some (zrv x0), some (zrv x1), some (zrv x2), some (zrv x3), some (zrv x4), some (zI x5), none, none, none] [zI s4, zI s3, zI s2, zI s1, zrv s0] h (zoI r) h' := by
  intro x0 x1 x2 x3 x4 x5 s0 s1 s2 s3 s4 h r h' H
  unfold zm291_1283 at H
  refine zA_aldn rfl rfl rfl ?_
  refine zA_ld rfl rfl rfl ?_
  refine zA_push rfl rfl zkk20 ?_
  refine zA_st (st' := [zI (x5 + (5 : Int32)), zrv x0, zI s4, zI s3, zI s2, zI s1, zrv s0]) rfl rfl rfl rfl ?_
  obtain ⟨p21, i22, j23, e24, c25, c26, e27, H⟩ := zai_e H
  refine zA_ial rfl rfl e24 c25 c26 e27 ?_
  refine zA_aldn rfl rfl rfl ?_
  obtain ⟨x29, h28, C, H⟩ := zb2_e H
  refine zA_callV (as := [zrv s0, zI s1, zI s2, zI s3, zI s4, zI (zi h p21 i22 j23), zrv x3]) (st' := []) rfl rfl rfl rfl rfl (zmE269 _ _ _ _ _ _ _) rfl (zmS269 C) ?_
  refine zA_ist2 rfl rfl rfl (zset1 (L' := [some (zrv x0), some (zrv x1), some (zrv x2), some (zrv x3), some (zrv x4), some (zI x5), some (zI x29), none, none]) rfl rfl (zpcV rfl rfl)) ?_
  refine zA_aldn rfl rfl rfl ?_
  refine zA_aldn rfl rfl rfl ?_
  refine zA_ld rfl rfl rfl ?_
  refine zA_push rfl rfl zkk5 ?_
  refine zA_st (st' := [zI (x5 + (1 : Int32)), zrv x0, zrv x2]) rfl rfl rfl rfl ?_
  obtain ⟨p30, i31, j32, e33, c34, c35, e36, H⟩ := zai_e H
  refine zA_ial rfl rfl e33 c34 c35 e36 ?_
  refine zA_aldn rfl rfl rfl ?_
  refine zA_ld rfl rfl rfl ?_
  refine zA_push rfl rfl zkk23 ?_
  refine zA_st (st' := [zI (x5 + (2 : Int32)), zrv x0, zI (zi h28 p30 i31 j32), zrv x2]) rfl rfl rfl rfl ?_
  obtain ⟨p37, i38, j39, e40, c41, c42, e43, H⟩ := zai_e H
  refine zA_ial rfl rfl e40 c41 c42 e43 ?_
  refine zA_aldn rfl rfl rfl ?_
  refine zA_ld rfl rfl rfl ?_
  refine zA_push rfl rfl zkk3 ?_
  refine zA_st (st' := [zI (x5 + (3 : Int32)), zrv x0, zI (zi h28 p37 i38 j39), zI (zi h28 p30 i31 j32), zrv x2]) rfl rfl rfl rfl ?_
  obtain ⟨p44, i45, j46, e47, c48, c49, e50, H⟩ := zai_e H
  refine zA_ial rfl rfl e47 c48 c49 e50 ?_
  rcases zite_e H with ⟨c51, H⟩ | ⟨c51, H⟩
  · refine zA_brT (c := (zi h28 p44 i45 j46) = 0) rfl rfl rfl c51 ?_
    refine zA_push rfl rfl zkk7 ?_
    exact zA_tr (L := [some (zrv x0), some (zrv x1), some (zrv x2), some (zrv x3), some (zrv x4), some (zI x5), some (zI x29), none, none]) rfl rfl (zmS291_1311 hk16 _ _ _ _ _ _ _ _ _ _ _ _ _ _ H)
  · refine zA_brF (c := (zi h28 p44 i45 j46) = 0) rfl rfl rfl c51 ?_
    refine zA_push rfl rfl zkk5 ?_
    refine zA_go rfl rfl ?_
    exact zA_tr (L := [some (zrv x0), some (zrv x1), some (zrv x2), some (zrv x3), some (zrv x4), some (zI x5), some (zI x29), none, none]) rfl rfl (zmS291_1311 hk16 _ _ _ _ _ _ _ _ _ _ _ _ _ _ H)
def zm291_1274 (k16 : zq → zq → zq → zq → zq → Int32 → zH → zRs Int32) (x0 : zq) (x1 : zq) (x2 : zq) (x3 : zq) (x4 : zq) (x5 : Int32) (s0 : zq) (s1 : Int32) (s2 : Int32) (s3 : Int32) (h : zH) : zRs Int32 :=
  zai x0 (x5 + (4 : Int32)) h fun p21 i22 j23 =>
  if (zi h p21 i22 j23) = 0 then
    zm291_1283 k16 x0 x1 x2 x3 x4 x5 s0 s1 s2 s3 (0 : Int32) h
  else
    zm291_1283 k16 x0 x1 x2 x3 x4 x5 s0 s1 s2 s3 (1 : Int32) h
theorem zmS291_1274 {k16 : zq → zq → zq → zq → zq → Int32 → zH → zRs Int32} (hk16 : ∀ (x0 : zq) (x1 : zq) (x2 : zq) (x3 : zq) (x4 : zq) (x5 : Int32) (h : zH) (r : Int32 ⊕ Nat) (h' : zH), k16 x0 x1 x2 x3 x4 x5 h = some (r, h') → zAt 291 16 [some (zrv x0), some (zrv x1), some (zrv x2), some (zrv x3), some (zrv x4), some (zI x5), none, none, none] [] h (zoI r) h') : ∀ (x0 : zq) (x1 : zq) (x2 : zq) (x3 : zq) (x4 : zq) (x5 : Int32) (s0 : zq) (s1 : Int32) (s2 : Int32) (s3 : Int32) (h : zH) (r : Int32 ⊕ Nat) (h' : zH), zm291_1274 k16 x0 x1 x2 x3 x4 x5 s0 s1 s2 s3 h = some (r, h') → zAt 291 1274 [some (zrv x0), some (zrv x1), some (zrv x2), some (zrv x3), some (zrv x4), some (zI x5), none, none, none] [zI s3, zI s2, zI s1, zrv s0] h (zoI r) h' := by
  intro x0 x1 x2 x3 x4 x5 s0 s1 s2 s3 h r h' H
  unfold zm291_1274 at H
  refine zA_aldn rfl rfl rfl ?_
  refine zA_ld rfl rfl rfl ?_
  refine zA_push rfl rfl zkk9 ?_
  refine zA_st (st' := [zI (x5 + (4 : Int32)), zrv x0, zI s3, zI s2, zI s1, zrv s0]) rfl rfl rfl rfl ?_
  obtain ⟨p21, i22, j23, e24, c25, c26, e27, H⟩ := zai_e H
  refine zA_ial rfl rfl e24 c25 c26 e27 ?_
  rcases zite_e H with ⟨c28, H⟩ | ⟨c28, H⟩
  · refine zA_brT (c := (zi h p21 i22 j23) = 0) rfl rfl rfl c28 ?_
    refine zA_push rfl rfl zkk7 ?_
    exact zA_tr (L := [some (zrv x0), some (zrv x1), some (zrv x2), some (zrv x3), some (zrv x4), some (zI x5), none, none, none]) rfl rfl (zmS291_1283 hk16 _ _ _ _ _ _ _ _ _ _ _ _ _ _ H)
  · refine zA_brF (c := (zi h p21 i22 j23) = 0) rfl rfl rfl c28 ?_
    refine zA_push rfl rfl zkk5 ?_
    refine zA_go rfl rfl ?_
    exact zA_tr (L := [some (zrv x0), some (zrv x1), some (zrv x2), some (zrv x3), some (zrv x4), some (zI x5), none, none, none]) rfl rfl (zmS291_1283 hk16 _ _ _ _ _ _ _ _ _ _ _ _ _ _ H)
def zm291_1254 (k16 : zq → zq → zq → zq → zq → Int32 → zH → zRs Int32) (x0 : zq) (x1 : zq) (x2 : zq) (x3 : zq) (x4 : zq) (x5 : Int32) (h : zH) : zRs Int32 :=
  zai x0 (x5 + (1 : Int32)) h fun p21 i22 j23 =>
  zai x0 (x5 + (2 : Int32)) h fun p28 i29 j30 =>
  zai x0 (x5 + (3 : Int32)) h fun p35 i36 j37 =>
  if (zi h p35 i36 j37) = 0 then
    zm291_1274 k16 x0 x1 x2 x3 x4 x5 x1 (zi h p21 i22 j23) (zi h p28 i29 j30) (0 : Int32) h
  else
    zm291_1274 k16 x0 x1 x2 x3 x4 x5 x1 (zi h p21 i22 j23) (zi h p28 i29 j30) (1 : Int32) h
theorem zmS291_1254 {k16 : zq → zq → zq → zq → zq → Int32 → zH → zRs Int32} (hk16 : ∀ (x0 : zq) (x1 : zq) (x2 : zq) (x3 : zq) (x4 : zq) (x5 : Int32) (h : zH) (r : Int32 ⊕ Nat) (h' : zH), k16 x0 x1 x2 x3 x4 x5 h = some (r, h') → zAt 291 16 [some (zrv x0), some (zrv x1), some (zrv x2), some (zrv x3), some (zrv x4), some (zI x5), none, none, none] [] h (zoI r) h') : ∀ (x0 : zq) (x1 : zq) (x2 : zq) (x3 : zq) (x4 : zq) (x5 : Int32) (h : zH) (r : Int32 ⊕ Nat) (h' : zH), zm291_1254 k16 x0 x1 x2 x3 x4 x5 h = some (r, h') → zAt 291 1254 [some (zrv x0), some (zrv x1), some (zrv x2), some (zrv x3), some (zrv x4), some (zI x5), none, none, none] [] h (zoI r) h' := by
  intro x0 x1 x2 x3 x4 x5 h r h' H
  unfold zm291_1254 at H
  refine zA_aldn rfl rfl rfl ?_
  refine zA_aldn rfl rfl rfl ?_
  refine zA_ld rfl rfl rfl ?_
  refine zA_push rfl rfl zkk5 ?_
  refine zA_st (st' := [zI (x5 + (1 : Int32)), zrv x0, zrv x1]) rfl rfl rfl rfl ?_
  obtain ⟨p21, i22, j23, e24, c25, c26, e27, H⟩ := zai_e H
  refine zA_ial rfl rfl e24 c25 c26 e27 ?_
  refine zA_aldn rfl rfl rfl ?_
  refine zA_ld rfl rfl rfl ?_
  refine zA_push rfl rfl zkk23 ?_
  refine zA_st (st' := [zI (x5 + (2 : Int32)), zrv x0, zI (zi h p21 i22 j23), zrv x1]) rfl rfl rfl rfl ?_
  obtain ⟨p28, i29, j30, e31, c32, c33, e34, H⟩ := zai_e H
  refine zA_ial rfl rfl e31 c32 c33 e34 ?_
  refine zA_aldn rfl rfl rfl ?_
  refine zA_ld rfl rfl rfl ?_
  refine zA_push rfl rfl zkk3 ?_
  refine zA_st (st' := [zI (x5 + (3 : Int32)), zrv x0, zI (zi h p28 i29 j30), zI (zi h p21 i22 j23), zrv x1]) rfl rfl rfl rfl ?_
  obtain ⟨p35, i36, j37, e38, c39, c40, e41, H⟩ := zai_e H
  refine zA_ial rfl rfl e38 c39 c40 e41 ?_
  rcases zite_e H with ⟨c42, H⟩ | ⟨c42, H⟩
  · refine zA_brT (c := (zi h p35 i36 j37) = 0) rfl rfl rfl c42 ?_
    refine zA_push rfl rfl zkk7 ?_
    exact zA_tr (L := [some (zrv x0), some (zrv x1), some (zrv x2), some (zrv x3), some (zrv x4), some (zI x5), none, none, none]) rfl rfl (zmS291_1274 hk16 _ _ _ _ _ _ _ _ _ _ _ _ _ H)
  · refine zA_brF (c := (zi h p35 i36 j37) = 0) rfl rfl rfl c42 ?_
    refine zA_push rfl rfl zkk5 ?_
    refine zA_go rfl rfl ?_
    exact zA_tr (L := [some (zrv x0), some (zrv x1), some (zrv x2), some (zrv x3), some (zrv x4), some (zI x5), none, none, none]) rfl rfl (zmS291_1274 hk16 _ _ _ _ _ _ _ _ _ _ _ _ _ H)
def zm291_1209 (k16 : zq → zq → zq → zq → zq → Int32 → zH → zRs Int32) (x0 : zq) (x1 : zq) (x2 : zq) (x3 : zq) (x4 : zq) (x5 : Int32) (h : zH) : zRs Int32 :=
  zai x0 (x5 + (1 : Int32)) h fun p21 i22 j23 =>
  zai x0 (x5 + (2 : Int32)) h fun p28 i29 j30 =>
  zb2 (zm268 x1 (zi h p21 i22 j23) (zi h p28 i29 j30) x3 h) fun x36 h35 =>
  zai x0 (x5 + (1 : Int32)) h35 fun p37 i38 j39 =>
  zai x0 (x5 + (2 : Int32)) h35 fun p44 i45 j46 =>
  zob 12 x2 fun p51 i52 =>
  zb (zm208 x2 (zi h35 p37 i38 j39) (zi h35 p44 i45 j46) h35) fun x56 h55 =>
  zb (zm137 x2 h55) fun x58 h57 =>
  if x58 = x36 then
    if x36 = 0 then
      zar 3 x3 (0 : Int32) h57 fun p61 i62 j63 =>
      if (lg_cmp (zl h57 p61 i62 j63) (x56.toInt64)) = 0 then
        zm291_2349 k16 x0 x1 x2 x3 x4 x5 h57
      else
        some (.inl (0 : Int32), h57)
    else
      zm291_2349 k16 x0 x1 x2 x3 x4 x5 h57
  else
    some (.inl (0 : Int32), h57)
theorem zmS291_1209 {k16 : zq → zq → zq → zq → zq → Int32 → zH → zRs Int32} (hk16 : ∀ (x0 : zq) (x1 : zq) (x2 : zq) (x3 : zq) (x4 : zq) (x5 : Int32) (h : zH) (r : Int32 ⊕ Nat) (h' : zH), k16 x0 x1 x2 x3 x4 x5 h = some (r, h') → zAt 291 16 [some (zrv x0), some (zrv x1), some (zrv x2), some (zrv x3), some (zrv x4), some (zI x5), none, none, none] [] h (zoI r) h') : ∀ (x0 : zq) (x1 : zq) (x2 : zq) (x3 : zq) (x4 : zq) (x5 : Int32) (h : zH) (r : Int32 ⊕ Nat) (h' : zH), zm291_1209 k16 x0 x1 x2 x3 x4 x5 h = some (r, h') → zAt 291 1209 [some (zrv x0), some (zrv x1), some (zrv x2), some (zrv x3), some (zrv x4), some (zI x5), none, none, none] [] h (zoI r) h' := by
  intro x0 x1 x2 x3 x4 x5 h r h' H
  unfold zm291_1209 at H
  refine zA_aldn rfl rfl rfl ?_
  refine zA_aldn rfl rfl rfl ?_
  refine zA_ld rfl rfl rfl ?_
  refine zA_push rfl rfl zkk5 ?_
  refine zA_st (st' := [zI (x5 + (1 : Int32)), zrv x0, zrv x1]) rfl rfl rfl rfl ?_
  obtain ⟨p21, i22, j23, e24, c25, c26, e27, H⟩ := zai_e H
  refine zA_ial rfl rfl e24 c25 c26 e27 ?_
  refine zA_aldn rfl rfl rfl ?_
  refine zA_ld rfl rfl rfl ?_
  refine zA_push rfl rfl zkk23 ?_
  refine zA_st (st' := [zI (x5 + (2 : Int32)), zrv x0, zI (zi h p21 i22 j23), zrv x1]) rfl rfl rfl rfl ?_
  obtain ⟨p28, i29, j30, e31, c32, c33, e34, H⟩ := zai_e H
  refine zA_ial rfl rfl e31 c32 c33 e34 ?_
  refine zA_aldn rfl rfl rfl ?_
  obtain ⟨x36, h35, C, H⟩ := zb2_e H
  refine zA_callV (as := [zrv x1, zI (zi h p21 i22 j23), zI (zi h p28 i29 j30), zrv x3]) (st' := []) rfl rfl rfl rfl rfl (zmE268 _ _ _ _) rfl (zmS268 C) ?_
  refine zA_ist2 rfl rfl rfl (zset1 (L' := [some (zrv x0), some (zrv x1), some (zrv x2), some (zrv x3), some (zrv x4), some (zI x5), some (zI x36), none, none]) rfl rfl (zpcV rfl rfl)) ?_
  refine zA_aldn rfl rfl rfl ?_
  refine zA_aldn rfl rfl rfl ?_
  refine zA_ld rfl rfl rfl ?_
  refine zA_push rfl rfl zkk5 ?_
  refine zA_st (st' := [zI (x5 + (1 : Int32)), zrv x0, zrv x2]) rfl rfl rfl rfl ?_
  obtain ⟨p37, i38, j39, e40, c41, c42, e43, H⟩ := zai_e H
  refine zA_ial rfl rfl e40 c41 c42 e43 ?_
  refine zA_aldn rfl rfl rfl ?_
  refine zA_ld rfl rfl rfl ?_
  refine zA_push rfl rfl zkk23 ?_
  refine zA_st (st' := [zI (x5 + (2 : Int32)), zrv x0, zI (zi h35 p37 i38 j39), zrv x2]) rfl rfl rfl rfl ?_
  obtain ⟨p44, i45, j46, e47, c48, c49, e50, H⟩ := zai_e H
  refine zA_ial rfl rfl e47 c48 c49 e50 ?_
  obtain ⟨p51, i52, e53, c54, H⟩ := zob_e H
  rcases zb_e H with ⟨x56, h55, C, H⟩ | ⟨E, h55, C, H⟩
  · refine zA_callV (as := [zrv x2, zI (zi h35 p37 i38 j39), zI (zi h35 p44 i45 j46)]) (st' := []) rfl rfl rfl (zrcv_Q e53 c54) rfl (zmE208 _ _ _) rfl (zmS208 C) ?_
    refine zA_ist2 rfl rfl rfl (zset1 (L' := [some (zrv x0), some (zrv x1), some (zrv x2), some (zrv x3), some (zrv x4), some (zI x5), some (zI x36), some (zI x56), none]) rfl rfl (zpcV rfl rfl)) ?_
    refine zA_aldn rfl rfl rfl ?_
    rcases zb_e H with ⟨x58, h57, C, H⟩ | ⟨E, h57, C, H⟩
    · refine zA_callV (as := [zrv x2]) (st' := []) rfl rfl rfl (zrcv_Q e53 c54) rfl (zmE137 _) rfl (zmS137 C) ?_
      refine zA_ld rfl rfl rfl ?_
      rcases zite_e H with ⟨c59, H⟩ | ⟨c59, H⟩
      · refine zA_brT (c := x58 = x36) rfl rfl rfl c59 ?_
        refine zA_ld rfl rfl rfl ?_
        rcases zite_e H with ⟨c60, H⟩ | ⟨c60, H⟩
        · refine zA_brF' (c := x36 = 0) rfl rfl rfl c60 ?_
          refine zA_aldn rfl rfl rfl ?_
          refine zA_push rfl rfl zkk7 ?_
          obtain ⟨p61, i62, j63, e64, c65, c66, e67, H⟩ := zar_e H
          refine zA_lal rfl rfl e64 c65 c66 e67 ?_
          refine zA_ld rfl rfl rfl ?_
          refine zA_st (st' := [zJ (x56.toInt64), zJ (zl h57 p61 i62 j63)]) rfl rfl rfl rfl ?_
          refine zA_st (st' := [zI (lg_cmp (zl h57 p61 i62 j63) (x56.toInt64))]) rfl rfl rfl rfl ?_
          rcases zite_e H with ⟨c68, H⟩ | ⟨c68, H⟩
          · refine zA_brT (c := (lg_cmp (zl h57 p61 i62 j63) (x56.toInt64)) = 0) rfl rfl rfl c68 ?_
            refine zA_tr (L := [some (zrv x0), some (zrv x1), some (zrv x2), some (zrv x3), some (zrv x4), some (zI x5), none, none, none]) rfl rfl ?_
            refine zA_go rfl rfl ?_
            exact zA_tr (L := [some (zrv x0), some (zrv x1), some (zrv x2), some (zrv x3), some (zrv x4), some (zI x5), none, none, none]) rfl rfl (zmS291_2349 hk16 _ _ _ _ _ _ _ _ _ H)
          · refine zA_brF (c := (lg_cmp (zl h57 p61 i62 j63) (x56.toInt64)) = 0) rfl rfl rfl c68 ?_
            refine zA_push rfl rfl zkk7 ?_
            cases H
            exact zA_ret rfl (zret_Z (by decide))
        · refine zA_brT' (c := x36 = 0) rfl rfl rfl c60 ?_
          refine zA_tr (L := [some (zrv x0), some (zrv x1), some (zrv x2), some (zrv x3), some (zrv x4), some (zI x5), none, none, none]) rfl rfl ?_
          refine zA_go rfl rfl ?_
          exact zA_tr (L := [some (zrv x0), some (zrv x1), some (zrv x2), some (zrv x3), some (zrv x4), some (zI x5), none, none, none]) rfl rfl (zmS291_2349 hk16 _ _ _ _ _ _ _ _ _ H)
      · refine zA_brF (c := x58 = x36) rfl rfl rfl c59 ?_
        refine zA_push rfl rfl zkk7 ?_
        cases H
        exact zA_ret rfl (zret_Z (by decide))
    · cases H
      exact zA_callX (as := [zrv x2]) (st' := []) rfl rfl (zrcv_Q e53 c54) rfl (zmE137 _) rfl rfl rfl (zmS137 C)
  · cases H
    exact zA_callX (as := [zrv x2, zI (zi h35 p37 i38 j39), zI (zi h35 p44 i45 j46)]) (st' := []) rfl rfl (zrcv_Q e53 c54) rfl (zmE208 _ _ _) rfl rfl rfl (zmS208 C)
def zm291_1177 (k16 : zq → zq → zq → zq → zq → Int32 → zH → zRs Int32) (x0 : zq) (x1 : zq) (x2 : zq) (x3 : zq) (x4 : zq) (x5 : Int32) (h : zH) : zRs Int32 :=
  zai x0 (x5 + (1 : Int32)) h fun p21 i22 j23 =>
  zai x0 (x5 + (2 : Int32)) h fun p28 i29 j30 =>
  zb2 (zm267 x1 (zi h p21 i22 j23) (zi h p28 i29 j30) h) fun x36 h35 =>
  zai x0 (x5 + (1 : Int32)) h35 fun p37 i38 j39 =>
  zai x0 (x5 + (2 : Int32)) h35 fun p44 i45 j46 =>
  zob 12 x2 fun p51 i52 =>
  zb (zm207 x2 (zi h35 p37 i38 j39) (zi h35 p44 i45 j46) h35) fun _ h55 =>
  zb (zm137 x2 h55) fun x57 h56 =>
  if x57 = x36 then
    zm291_2349 k16 x0 x1 x2 x3 x4 x5 h56
  else
    some (.inl (0 : Int32), h56)
theorem zmS291_1177 {k16 : zq → zq → zq → zq → zq → Int32 → zH → zRs Int32} (hk16 : ∀ (x0 : zq) (x1 : zq) (x2 : zq) (x3 : zq) (x4 : zq) (x5 : Int32) (h : zH) (r : Int32 ⊕ Nat) (h' : zH), k16 x0 x1 x2 x3 x4 x5 h = some (r, h') → zAt 291 16 [some (zrv x0), some (zrv x1), some (zrv x2), some (zrv x3), some (zrv x4), some (zI x5), none, none, none] [] h (zoI r) h') : ∀ (x0 : zq) (x1 : zq) (x2 : zq) (x3 : zq) (x4 : zq) (x5 : Int32) (h : zH) (r : Int32 ⊕ Nat) (h' : zH), zm291_1177 k16 x0 x1 x2 x3 x4 x5 h = some (r, h') → zAt 291 1177 [some (zrv x0), some (zrv x1), some (zrv x2), some (zrv x3), some (zrv x4), some (zI x5), none, none, none] [] h (zoI r) h' := by
  intro x0 x1 x2 x3 x4 x5 h r h' H
  unfold zm291_1177 at H
  refine zA_aldn rfl rfl rfl ?_
  refine zA_aldn rfl rfl rfl ?_
  refine zA_ld rfl rfl rfl ?_
  refine zA_push rfl rfl zkk5 ?_
  refine zA_st (st' := [zI (x5 + (1 : Int32)), zrv x0, zrv x1]) rfl rfl rfl rfl ?_
  obtain ⟨p21, i22, j23, e24, c25, c26, e27, H⟩ := zai_e H
  refine zA_ial rfl rfl e24 c25 c26 e27 ?_
  refine zA_aldn rfl rfl rfl ?_
  refine zA_ld rfl rfl rfl ?_
  refine zA_push rfl rfl zkk23 ?_
  refine zA_st (st' := [zI (x5 + (2 : Int32)), zrv x0, zI (zi h p21 i22 j23), zrv x1]) rfl rfl rfl rfl ?_
  obtain ⟨p28, i29, j30, e31, c32, c33, e34, H⟩ := zai_e H
  refine zA_ial rfl rfl e31 c32 c33 e34 ?_
  obtain ⟨x36, h35, C, H⟩ := zb2_e H
  refine zA_callV (as := [zrv x1, zI (zi h p21 i22 j23), zI (zi h p28 i29 j30)]) (st' := []) rfl rfl rfl rfl rfl (zmE267 _ _ _) rfl (zmS267 C) ?_
  refine zA_ist2 rfl rfl rfl (zset1 (L' := [some (zrv x0), some (zrv x1), some (zrv x2), some (zrv x3), some (zrv x4), some (zI x5), some (zI x36), none, none]) rfl rfl (zpcV rfl rfl)) ?_
  refine zA_aldn rfl rfl rfl ?_
  refine zA_aldn rfl rfl rfl ?_
  refine zA_ld rfl rfl rfl ?_
  refine zA_push rfl rfl zkk5 ?_
  refine zA_st (st' := [zI (x5 + (1 : Int32)), zrv x0, zrv x2]) rfl rfl rfl rfl ?_
  obtain ⟨p37, i38, j39, e40, c41, c42, e43, H⟩ := zai_e H
  refine zA_ial rfl rfl e40 c41 c42 e43 ?_
  refine zA_aldn rfl rfl rfl ?_
  refine zA_ld rfl rfl rfl ?_
  refine zA_push rfl rfl zkk23 ?_
  refine zA_st (st' := [zI (x5 + (2 : Int32)), zrv x0, zI (zi h35 p37 i38 j39), zrv x2]) rfl rfl rfl rfl ?_
  obtain ⟨p44, i45, j46, e47, c48, c49, e50, H⟩ := zai_e H
  refine zA_ial rfl rfl e47 c48 c49 e50 ?_
  obtain ⟨p51, i52, e53, c54, H⟩ := zob_e H
  rcases zb_e H with ⟨u59, h55, C, H⟩ | ⟨E, h55, C, H⟩
  · refine zA_callU (as := [zrv x2, zI (zi h35 p37 i38 j39), zI (zi h35 p44 i45 j46)]) (st' := []) rfl rfl rfl (zrcv_Q e53 c54) rfl (zmE207 _ _ _) rfl (zmS207 C) ?_
    refine zA_aldn rfl rfl rfl ?_
    rcases zb_e H with ⟨x57, h56, C, H⟩ | ⟨E, h56, C, H⟩
    · refine zA_callV (as := [zrv x2]) (st' := []) rfl rfl rfl (zrcv_Q e53 c54) rfl (zmE137 _) rfl (zmS137 C) ?_
      refine zA_ld rfl rfl rfl ?_
      rcases zite_e H with ⟨c58, H⟩ | ⟨c58, H⟩
      · refine zA_brT (c := x57 = x36) rfl rfl rfl c58 ?_
        refine zA_tr (L := [some (zrv x0), some (zrv x1), some (zrv x2), some (zrv x3), some (zrv x4), some (zI x5), none, none, none]) rfl rfl ?_
        refine zA_go rfl rfl ?_
        exact zA_tr (L := [some (zrv x0), some (zrv x1), some (zrv x2), some (zrv x3), some (zrv x4), some (zI x5), none, none, none]) rfl rfl (zmS291_2349 hk16 _ _ _ _ _ _ _ _ _ H)
      · refine zA_brF (c := x57 = x36) rfl rfl rfl c58 ?_
        refine zA_push rfl rfl zkk7 ?_
        cases H
        exact zA_ret rfl (zret_Z (by decide))
    · cases H
      exact zA_callX (as := [zrv x2]) (st' := []) rfl rfl (zrcv_Q e53 c54) rfl (zmE137 _) rfl rfl rfl (zmS137 C)
  · cases H
    exact zA_callX (as := [zrv x2, zI (zi h35 p37 i38 j39), zI (zi h35 p44 i45 j46)]) (st' := []) rfl rfl (zrcv_Q e53 c54) rfl (zmE207 _ _ _) rfl rfl rfl (zmS207 C)
def zm291_1142 (k16 : zq → zq → zq → zq → zq → Int32 → zH → zRs Int32) (x0 : zq) (x1 : zq) (x2 : zq) (x3 : zq) (x4 : zq) (x5 : Int32) (h : zH) : zRs Int32 :=
  zai x0 (x5 + (1 : Int32)) h fun p21 i22 j23 =>
  zb2 (zm266 x1 (zi h p21 i22 j23) x3 h) fun x29 h28 =>
  zai x0 (x5 + (1 : Int32)) h28 fun p30 i31 j32 =>
  zob 12 x2 fun p37 i38 =>
  zb (zm206 x2 (zi h28 p30 i31 j32) h28) fun x42 h41 =>
  zb (zm137 x2 h41) fun x44 h43 =>
  if x44 = x29 then
    if x29 = 0 then
      zar 3 x3 (0 : Int32) h43 fun p47 i48 j49 =>
      if (lg_cmp (zl h43 p47 i48 j49) (x42.toInt64)) = 0 then
        zm291_2349 k16 x0 x1 x2 x3 x4 x5 h43
      else
        some (.inl (0 : Int32), h43)
    else
      zm291_2349 k16 x0 x1 x2 x3 x4 x5 h43
  else
    some (.inl (0 : Int32), h43)
theorem zmS291_1142 {k16 : zq → zq → zq → zq → zq → Int32 → zH → zRs Int32} (hk16 : ∀ (x0 : zq) (x1 : zq) (x2 : zq) (x3 : zq) (x4 : zq) (x5 : Int32) (h : zH) (r : Int32 ⊕ Nat) (h' : zH), k16 x0 x1 x2 x3 x4 x5 h = some (r, h') → zAt 291 16 [some (zrv x0), some (zrv x1), some (zrv x2), some (zrv x3), some (zrv x4), some (zI x5), none, none, none] [] h (zoI r) h') : ∀ (x0 : zq) (x1 : zq) (x2 : zq) (x3 : zq) (x4 : zq) (x5 : Int32) (h : zH) (r : Int32 ⊕ Nat) (h' : zH), zm291_1142 k16 x0 x1 x2 x3 x4 x5 h = some (r, h') → zAt 291 1142 [some (zrv x0), some (zrv x1), some (zrv x2), some (zrv x3), some (zrv x4), some (zI x5), none, none, none] [] h (zoI r) h' := by
  intro x0 x1 x2 x3 x4 x5 h r h' H
  unfold zm291_1142 at H
  refine zA_aldn rfl rfl rfl ?_
  refine zA_aldn rfl rfl rfl ?_
  refine zA_ld rfl rfl rfl ?_
  refine zA_push rfl rfl zkk5 ?_
  refine zA_st (st' := [zI (x5 + (1 : Int32)), zrv x0, zrv x1]) rfl rfl rfl rfl ?_
  obtain ⟨p21, i22, j23, e24, c25, c26, e27, H⟩ := zai_e H
  refine zA_ial rfl rfl e24 c25 c26 e27 ?_
  refine zA_aldn rfl rfl rfl ?_
  obtain ⟨x29, h28, C, H⟩ := zb2_e H
  refine zA_callV (as := [zrv x1, zI (zi h p21 i22 j23), zrv x3]) (st' := []) rfl rfl rfl rfl rfl (zmE266 _ _ _) rfl (zmS266 C) ?_
  refine zA_ist2 rfl rfl rfl (zset1 (L' := [some (zrv x0), some (zrv x1), some (zrv x2), some (zrv x3), some (zrv x4), some (zI x5), some (zI x29), none, none]) rfl rfl (zpcV rfl rfl)) ?_
  refine zA_aldn rfl rfl rfl ?_
  refine zA_aldn rfl rfl rfl ?_
  refine zA_ld rfl rfl rfl ?_
  refine zA_push rfl rfl zkk5 ?_
  refine zA_st (st' := [zI (x5 + (1 : Int32)), zrv x0, zrv x2]) rfl rfl rfl rfl ?_
  obtain ⟨p30, i31, j32, e33, c34, c35, e36, H⟩ := zai_e H
  refine zA_ial rfl rfl e33 c34 c35 e36 ?_
  obtain ⟨p37, i38, e39, c40, H⟩ := zob_e H
  rcases zb_e H with ⟨x42, h41, C, H⟩ | ⟨E, h41, C, H⟩
  · refine zA_callV (as := [zrv x2, zI (zi h28 p30 i31 j32)]) (st' := []) rfl rfl rfl (zrcv_Q e39 c40) rfl (zmE206 _ _) rfl (zmS206 C) ?_
    refine zA_ist2 rfl rfl rfl (zset1 (L' := [some (zrv x0), some (zrv x1), some (zrv x2), some (zrv x3), some (zrv x4), some (zI x5), some (zI x29), some (zI x42), none]) rfl rfl (zpcV rfl rfl)) ?_
    refine zA_aldn rfl rfl rfl ?_
    rcases zb_e H with ⟨x44, h43, C, H⟩ | ⟨E, h43, C, H⟩
    · refine zA_callV (as := [zrv x2]) (st' := []) rfl rfl rfl (zrcv_Q e39 c40) rfl (zmE137 _) rfl (zmS137 C) ?_
      refine zA_ld rfl rfl rfl ?_
      rcases zite_e H with ⟨c45, H⟩ | ⟨c45, H⟩
      · refine zA_brT (c := x44 = x29) rfl rfl rfl c45 ?_
        refine zA_ld rfl rfl rfl ?_
        rcases zite_e H with ⟨c46, H⟩ | ⟨c46, H⟩
        · refine zA_brF' (c := x29 = 0) rfl rfl rfl c46 ?_
          refine zA_aldn rfl rfl rfl ?_
          refine zA_push rfl rfl zkk7 ?_
          obtain ⟨p47, i48, j49, e50, c51, c52, e53, H⟩ := zar_e H
          refine zA_lal rfl rfl e50 c51 c52 e53 ?_
          refine zA_ld rfl rfl rfl ?_
          refine zA_st (st' := [zJ (x42.toInt64), zJ (zl h43 p47 i48 j49)]) rfl rfl rfl rfl ?_
          refine zA_st (st' := [zI (lg_cmp (zl h43 p47 i48 j49) (x42.toInt64))]) rfl rfl rfl rfl ?_
          rcases zite_e H with ⟨c54, H⟩ | ⟨c54, H⟩
          · refine zA_brT (c := (lg_cmp (zl h43 p47 i48 j49) (x42.toInt64)) = 0) rfl rfl rfl c54 ?_
            refine zA_tr (L := [some (zrv x0), some (zrv x1), some (zrv x2), some (zrv x3), some (zrv x4), some (zI x5), none, none, none]) rfl rfl ?_
            refine zA_go rfl rfl ?_
            exact zA_tr (L := [some (zrv x0), some (zrv x1), some (zrv x2), some (zrv x3), some (zrv x4), some (zI x5), none, none, none]) rfl rfl (zmS291_2349 hk16 _ _ _ _ _ _ _ _ _ H)
          · refine zA_brF (c := (lg_cmp (zl h43 p47 i48 j49) (x42.toInt64)) = 0) rfl rfl rfl c54 ?_
            refine zA_push rfl rfl zkk7 ?_
            cases H
            exact zA_ret rfl (zret_Z (by decide))
        · refine zA_brT' (c := x29 = 0) rfl rfl rfl c46 ?_
          refine zA_tr (L := [some (zrv x0), some (zrv x1), some (zrv x2), some (zrv x3), some (zrv x4), some (zI x5), none, none, none]) rfl rfl ?_
          refine zA_go rfl rfl ?_
          exact zA_tr (L := [some (zrv x0), some (zrv x1), some (zrv x2), some (zrv x3), some (zrv x4), some (zI x5), none, none, none]) rfl rfl (zmS291_2349 hk16 _ _ _ _ _ _ _ _ _ H)
      · refine zA_brF (c := x44 = x29) rfl rfl rfl c45 ?_
        refine zA_push rfl rfl zkk7 ?_
        cases H
        exact zA_ret rfl (zret_Z (by decide))
    · cases H
      exact zA_callX (as := [zrv x2]) (st' := []) rfl rfl (zrcv_Q e39 c40) rfl (zmE137 _) rfl rfl rfl (zmS137 C)
  · cases H
    exact zA_callX (as := [zrv x2, zI (zi h28 p30 i31 j32)]) (st' := []) rfl rfl (zrcv_Q e39 c40) rfl (zmE206 _ _) rfl rfl rfl (zmS206 C)
def zm291_1100 (k16 : zq → zq → zq → zq → zq → Int32 → zH → zRs Int32) (x0 : zq) (x1 : zq) (x2 : zq) (x3 : zq) (x4 : zq) (x5 : Int32) (h : zH) : zRs Int32 :=
  zai x0 (x5 + (1 : Int32)) h fun p21 i22 j23 =>
  zai x0 (x5 + (2 : Int32)) h fun p28 i29 j30 =>
  zai x0 (x5 + (3 : Int32)) h fun p35 i36 j37 =>
  zb2 (zm265 x1 (zi h p21 i22 j23) (zi h p28 i29 j30) (zi h p35 i36 j37) h) fun x43 h42 =>
  zai x0 (x5 + (1 : Int32)) h42 fun p44 i45 j46 =>
  zai x0 (x5 + (2 : Int32)) h42 fun p51 i52 j53 =>
  zai x0 (x5 + (3 : Int32)) h42 fun p58 i59 j60 =>
  zob 12 x2 fun p65 i66 =>
  zb (zm205 x2 (zi h42 p44 i45 j46) (zi h42 p51 i52 j53) (zi h42 p58 i59 j60) h42) fun _ h69 =>
  zb (zm137 x2 h69) fun x71 h70 =>
  if x71 = x43 then
    zm291_2349 k16 x0 x1 x2 x3 x4 x5 h70
  else
    some (.inl (0 : Int32), h70)
theorem zmS291_1100 {k16 : zq → zq → zq → zq → zq → Int32 → zH → zRs Int32} (hk16 : ∀ (x0 : zq) (x1 : zq) (x2 : zq) (x3 : zq) (x4 : zq) (x5 : Int32) (h : zH) (r : Int32 ⊕ Nat) (h' : zH), k16 x0 x1 x2 x3 x4 x5 h = some (r, h') → zAt 291 16 [some (zrv x0), some (zrv x1), some (zrv x2), some (zrv x3), some (zrv x4), some (zI x5), none, none, none] [] h (zoI r) h') : ∀ (x0 : zq) (x1 : zq) (x2 : zq) (x3 : zq) (x4 : zq) (x5 : Int32) (h : zH) (r : Int32 ⊕ Nat) (h' : zH), zm291_1100 k16 x0 x1 x2 x3 x4 x5 h = some (r, h') → zAt 291 1100 [some (zrv x0), some (zrv x1), some (zrv x2), some (zrv x3), some (zrv x4), some (zI x5), none, none, none] [] h (zoI r) h' := by
  intro x0 x1 x2 x3 x4 x5 h r h' H
  unfold zm291_1100 at H
  refine zA_aldn rfl rfl rfl ?_
  refine zA_aldn rfl rfl rfl ?_
  refine zA_ld rfl rfl rfl ?_
  refine zA_push rfl rfl zkk5 ?_
  refine zA_st (st' := [zI (x5 + (1 : Int32)), zrv x0, zrv x1]) rfl rfl rfl rfl ?_
  obtain ⟨p21, i22, j23, e24, c25, c26, e27, H⟩ := zai_e H
  refine zA_ial rfl rfl e24 c25 c26 e27 ?_
  refine zA_aldn rfl rfl rfl ?_
  refine zA_ld rfl rfl rfl ?_
  refine zA_push rfl rfl zkk23 ?_
  refine zA_st (st' := [zI (x5 + (2 : Int32)), zrv x0, zI (zi h p21 i22 j23), zrv x1]) rfl rfl rfl rfl ?_
  obtain ⟨p28, i29, j30, e31, c32, c33, e34, H⟩ := zai_e H
  refine zA_ial rfl rfl e31 c32 c33 e34 ?_
  refine zA_aldn rfl rfl rfl ?_
  refine zA_ld rfl rfl rfl ?_
  refine zA_push rfl rfl zkk3 ?_
  refine zA_st (st' := [zI (x5 + (3 : Int32)), zrv x0, zI (zi h p28 i29 j30), zI (zi h p21 i22 j23), zrv x1]) rfl rfl rfl rfl ?_
  obtain ⟨p35, i36, j37, e38, c39, c40, e41, H⟩ := zai_e H
  refine zA_ial rfl rfl e38 c39 c40 e41 ?_
  obtain ⟨x43, h42, C, H⟩ := zb2_e H
  refine zA_callV (as := [zrv x1, zI (zi h p21 i22 j23), zI (zi h p28 i29 j30), zI (zi h p35 i36 j37)]) (st' := []) rfl rfl rfl rfl rfl (zmE265 _ _ _ _) rfl (zmS265 C) ?_
  refine zA_ist2 rfl rfl rfl (zset1 (L' := [some (zrv x0), some (zrv x1), some (zrv x2), some (zrv x3), some (zrv x4), some (zI x5), some (zI x43), none, none]) rfl rfl (zpcV rfl rfl)) ?_
  refine zA_aldn rfl rfl rfl ?_
  refine zA_aldn rfl rfl rfl ?_
  refine zA_ld rfl rfl rfl ?_
  refine zA_push rfl rfl zkk5 ?_
  refine zA_st (st' := [zI (x5 + (1 : Int32)), zrv x0, zrv x2]) rfl rfl rfl rfl ?_
  obtain ⟨p44, i45, j46, e47, c48, c49, e50, H⟩ := zai_e H
  refine zA_ial rfl rfl e47 c48 c49 e50 ?_
  refine zA_aldn rfl rfl rfl ?_
  refine zA_ld rfl rfl rfl ?_
  refine zA_push rfl rfl zkk23 ?_
  refine zA_st (st' := [zI (x5 + (2 : Int32)), zrv x0, zI (zi h42 p44 i45 j46), zrv x2]) rfl rfl rfl rfl ?_
  obtain ⟨p51, i52, j53, e54, c55, c56, e57, H⟩ := zai_e H
  refine zA_ial rfl rfl e54 c55 c56 e57 ?_
  refine zA_aldn rfl rfl rfl ?_
  refine zA_ld rfl rfl rfl ?_
  refine zA_push rfl rfl zkk3 ?_
  refine zA_st (st' := [zI (x5 + (3 : Int32)), zrv x0, zI (zi h42 p51 i52 j53), zI (zi h42 p44 i45 j46), zrv x2]) rfl rfl rfl rfl ?_
  obtain ⟨p58, i59, j60, e61, c62, c63, e64, H⟩ := zai_e H
  refine zA_ial rfl rfl e61 c62 c63 e64 ?_
  obtain ⟨p65, i66, e67, c68, H⟩ := zob_e H
  rcases zb_e H with ⟨u73, h69, C, H⟩ | ⟨E, h69, C, H⟩
  · refine zA_callU (as := [zrv x2, zI (zi h42 p44 i45 j46), zI (zi h42 p51 i52 j53), zI (zi h42 p58 i59 j60)]) (st' := []) rfl rfl rfl (zrcv_Q e67 c68) rfl (zmE205 _ _ _ _) rfl (zmS205 C) ?_
    refine zA_aldn rfl rfl rfl ?_
    rcases zb_e H with ⟨x71, h70, C, H⟩ | ⟨E, h70, C, H⟩
    · refine zA_callV (as := [zrv x2]) (st' := []) rfl rfl rfl (zrcv_Q e67 c68) rfl (zmE137 _) rfl (zmS137 C) ?_
      refine zA_ld rfl rfl rfl ?_
      rcases zite_e H with ⟨c72, H⟩ | ⟨c72, H⟩
      · refine zA_brT (c := x71 = x43) rfl rfl rfl c72 ?_
        refine zA_tr (L := [some (zrv x0), some (zrv x1), some (zrv x2), some (zrv x3), some (zrv x4), some (zI x5), none, none, none]) rfl rfl ?_
        refine zA_go rfl rfl ?_
        exact zA_tr (L := [some (zrv x0), some (zrv x1), some (zrv x2), some (zrv x3), some (zrv x4), some (zI x5), none, none, none]) rfl rfl (zmS291_2349 hk16 _ _ _ _ _ _ _ _ _ H)
      · refine zA_brF (c := x71 = x43) rfl rfl rfl c72 ?_
        refine zA_push rfl rfl zkk7 ?_
        cases H
        exact zA_ret rfl (zret_Z (by decide))
    · cases H
      exact zA_callX (as := [zrv x2]) (st' := []) rfl rfl (zrcv_Q e67 c68) rfl (zmE137 _) rfl rfl rfl (zmS137 C)
  · cases H
    exact zA_callX (as := [zrv x2, zI (zi h42 p44 i45 j46), zI (zi h42 p51 i52 j53), zI (zi h42 p58 i59 j60)]) (st' := []) rfl rfl (zrcv_Q e67 c68) rfl (zmE205 _ _ _ _) rfl rfl rfl (zmS205 C)
def zm291_1068 (k16 : zq → zq → zq → zq → zq → Int32 → zH → zRs Int32) (x0 : zq) (x1 : zq) (x2 : zq) (x3 : zq) (x4 : zq) (x5 : Int32) (h : zH) : zRs Int32 :=
  zai x0 (x5 + (1 : Int32)) h fun p21 i22 j23 =>
  zai x0 (x5 + (2 : Int32)) h fun p28 i29 j30 =>
  zb2 (zm264 x1 (zi h p21 i22 j23) (zi h p28 i29 j30) h) fun x36 h35 =>
  zai x0 (x5 + (1 : Int32)) h35 fun p37 i38 j39 =>
  zai x0 (x5 + (2 : Int32)) h35 fun p44 i45 j46 =>
  zob 12 x2 fun p51 i52 =>
  zb (zm204 x2 (zi h35 p37 i38 j39) (zi h35 p44 i45 j46) h35) fun _ h55 =>
  zb (zm137 x2 h55) fun x57 h56 =>
  if x57 = x36 then
    zm291_2349 k16 x0 x1 x2 x3 x4 x5 h56
  else
    some (.inl (0 : Int32), h56)
theorem zmS291_1068 {k16 : zq → zq → zq → zq → zq → Int32 → zH → zRs Int32} (hk16 : ∀ (x0 : zq) (x1 : zq) (x2 : zq) (x3 : zq) (x4 : zq) (x5 : Int32) (h : zH) (r : Int32 ⊕ Nat) (h' : zH), k16 x0 x1 x2 x3 x4 x5 h = some (r, h') → zAt 291 16 [some (zrv x0), some (zrv x1), some (zrv x2), some (zrv x3), some (zrv x4), some (zI x5), none, none, none] [] h (zoI r) h') : ∀ (x0 : zq) (x1 : zq) (x2 : zq) (x3 : zq) (x4 : zq) (x5 : Int32) (h : zH) (r : Int32 ⊕ Nat) (h' : zH), zm291_1068 k16 x0 x1 x2 x3 x4 x5 h = some (r, h') → zAt 291 1068 [some (zrv x0), some (zrv x1), some (zrv x2), some (zrv x3), some (zrv x4), some (zI x5), none, none, none] [] h (zoI r) h' := by
  intro x0 x1 x2 x3 x4 x5 h r h' H
  unfold zm291_1068 at H
  refine zA_aldn rfl rfl rfl ?_
  refine zA_aldn rfl rfl rfl ?_
  refine zA_ld rfl rfl rfl ?_
  refine zA_push rfl rfl zkk5 ?_
  refine zA_st (st' := [zI (x5 + (1 : Int32)), zrv x0, zrv x1]) rfl rfl rfl rfl ?_
  obtain ⟨p21, i22, j23, e24, c25, c26, e27, H⟩ := zai_e H
  refine zA_ial rfl rfl e24 c25 c26 e27 ?_
  refine zA_aldn rfl rfl rfl ?_
  refine zA_ld rfl rfl rfl ?_
  refine zA_push rfl rfl zkk23 ?_
  refine zA_st (st' := [zI (x5 + (2 : Int32)), zrv x0, zI (zi h p21 i22 j23), zrv x1]) rfl rfl rfl rfl ?_
  obtain ⟨p28, i29, j30, e31, c32, c33, e34, H⟩ := zai_e H
  refine zA_ial rfl rfl e31 c32 c33 e34 ?_
  obtain ⟨x36, h35, C, H⟩ := zb2_e H
  refine zA_callV (as := [zrv x1, zI (zi h p21 i22 j23), zI (zi h p28 i29 j30)]) (st' := []) rfl rfl rfl rfl rfl (zmE264 _ _ _) rfl (zmS264 C) ?_
  refine zA_ist2 rfl rfl rfl (zset1 (L' := [some (zrv x0), some (zrv x1), some (zrv x2), some (zrv x3), some (zrv x4), some (zI x5), some (zI x36), none, none]) rfl rfl (zpcV rfl rfl)) ?_
  refine zA_aldn rfl rfl rfl ?_
  refine zA_aldn rfl rfl rfl ?_
  refine zA_ld rfl rfl rfl ?_
  refine zA_push rfl rfl zkk5 ?_
  refine zA_st (st' := [zI (x5 + (1 : Int32)), zrv x0, zrv x2]) rfl rfl rfl rfl ?_
  obtain ⟨p37, i38, j39, e40, c41, c42, e43, H⟩ := zai_e H
  refine zA_ial rfl rfl e40 c41 c42 e43 ?_
  refine zA_aldn rfl rfl rfl ?_
  refine zA_ld rfl rfl rfl ?_
  refine zA_push rfl rfl zkk23 ?_
  refine zA_st (st' := [zI (x5 + (2 : Int32)), zrv x0, zI (zi h35 p37 i38 j39), zrv x2]) rfl rfl rfl rfl ?_
  obtain ⟨p44, i45, j46, e47, c48, c49, e50, H⟩ := zai_e H
  refine zA_ial rfl rfl e47 c48 c49 e50 ?_
  obtain ⟨p51, i52, e53, c54, H⟩ := zob_e H
  rcases zb_e H with ⟨u59, h55, C, H⟩ | ⟨E, h55, C, H⟩
  · refine zA_callU (as := [zrv x2, zI (zi h35 p37 i38 j39), zI (zi h35 p44 i45 j46)]) (st' := []) rfl rfl rfl (zrcv_Q e53 c54) rfl (zmE204 _ _ _) rfl (zmS204 C) ?_
    refine zA_aldn rfl rfl rfl ?_
    rcases zb_e H with ⟨x57, h56, C, H⟩ | ⟨E, h56, C, H⟩
    · refine zA_callV (as := [zrv x2]) (st' := []) rfl rfl rfl (zrcv_Q e53 c54) rfl (zmE137 _) rfl (zmS137 C) ?_
      refine zA_ld rfl rfl rfl ?_
      rcases zite_e H with ⟨c58, H⟩ | ⟨c58, H⟩
      · refine zA_brT (c := x57 = x36) rfl rfl rfl c58 ?_
        refine zA_tr (L := [some (zrv x0), some (zrv x1), some (zrv x2), some (zrv x3), some (zrv x4), some (zI x5), none, none, none]) rfl rfl ?_
        refine zA_go rfl rfl ?_
        exact zA_tr (L := [some (zrv x0), some (zrv x1), some (zrv x2), some (zrv x3), some (zrv x4), some (zI x5), none, none, none]) rfl rfl (zmS291_2349 hk16 _ _ _ _ _ _ _ _ _ H)
      · refine zA_brF (c := x57 = x36) rfl rfl rfl c58 ?_
        refine zA_push rfl rfl zkk7 ?_
        cases H
        exact zA_ret rfl (zret_Z (by decide))
    · cases H
      exact zA_callX (as := [zrv x2]) (st' := []) rfl rfl (zrcv_Q e53 c54) rfl (zmE137 _) rfl rfl rfl (zmS137 C)
  · cases H
    exact zA_callX (as := [zrv x2, zI (zi h35 p37 i38 j39), zI (zi h35 p44 i45 j46)]) (st' := []) rfl rfl (zrcv_Q e53 c54) rfl (zmE204 _ _ _) rfl rfl rfl (zmS204 C)
def zm291_1023 (k16 : zq → zq → zq → zq → zq → Int32 → zH → zRs Int32) (x0 : zq) (x1 : zq) (x2 : zq) (x3 : zq) (x4 : zq) (x5 : Int32) (h : zH) : zRs Int32 :=
  zai x0 (x5 + (1 : Int32)) h fun p21 i22 j23 =>
  zai x0 (x5 + (2 : Int32)) h fun p28 i29 j30 =>
  zb2 (zm263 x1 (zi h p21 i22 j23) (zi h p28 i29 j30) x3 h) fun x36 h35 =>
  zai x0 (x5 + (1 : Int32)) h35 fun p37 i38 j39 =>
  zai x0 (x5 + (2 : Int32)) h35 fun p44 i45 j46 =>
  zob 12 x2 fun p51 i52 =>
  zb (zm201 x2 (zi h35 p37 i38 j39) (zi h35 p44 i45 j46) h35) fun x56 h55 =>
  zb (zm137 x2 h55) fun x58 h57 =>
  if x58 = x36 then
    if x36 = 0 then
      zar 3 x3 (0 : Int32) h57 fun p61 i62 j63 =>
      if (lg_cmp (zl h57 p61 i62 j63) (x56.toInt64)) = 0 then
        zm291_2349 k16 x0 x1 x2 x3 x4 x5 h57
      else
        some (.inl (0 : Int32), h57)
    else
      zm291_2349 k16 x0 x1 x2 x3 x4 x5 h57
  else
    some (.inl (0 : Int32), h57)
theorem zmS291_1023 {k16 : zq → zq → zq → zq → zq → Int32 → zH → zRs Int32} (hk16 : ∀ (x0 : zq) (x1 : zq) (x2 : zq) (x3 : zq) (x4 : zq) (x5 : Int32) (h : zH) (r : Int32 ⊕ Nat) (h' : zH), k16 x0 x1 x2 x3 x4 x5 h = some (r, h') → zAt 291 16 [some (zrv x0), some (zrv x1), some (zrv x2), some (zrv x3), some (zrv x4), some (zI x5), none, none, none] [] h (zoI r) h') : ∀ (x0 : zq) (x1 : zq) (x2 : zq) (x3 : zq) (x4 : zq) (x5 : Int32) (h : zH) (r : Int32 ⊕ Nat) (h' : zH), zm291_1023 k16 x0 x1 x2 x3 x4 x5 h = some (r, h') → zAt 291 1023 [some (zrv x0), some (zrv x1), some (zrv x2), some (zrv x3), some (zrv x4), some (zI x5), none, none, none] [] h (zoI r) h' := by
  intro x0 x1 x2 x3 x4 x5 h r h' H
  unfold zm291_1023 at H
  refine zA_aldn rfl rfl rfl ?_
  refine zA_aldn rfl rfl rfl ?_
  refine zA_ld rfl rfl rfl ?_
  refine zA_push rfl rfl zkk5 ?_
  refine zA_st (st' := [zI (x5 + (1 : Int32)), zrv x0, zrv x1]) rfl rfl rfl rfl ?_
  obtain ⟨p21, i22, j23, e24, c25, c26, e27, H⟩ := zai_e H
  refine zA_ial rfl rfl e24 c25 c26 e27 ?_
  refine zA_aldn rfl rfl rfl ?_
  refine zA_ld rfl rfl rfl ?_
  refine zA_push rfl rfl zkk23 ?_
  refine zA_st (st' := [zI (x5 + (2 : Int32)), zrv x0, zI (zi h p21 i22 j23), zrv x1]) rfl rfl rfl rfl ?_
  obtain ⟨p28, i29, j30, e31, c32, c33, e34, H⟩ := zai_e H
  refine zA_ial rfl rfl e31 c32 c33 e34 ?_
  refine zA_aldn rfl rfl rfl ?_
  obtain ⟨x36, h35, C, H⟩ := zb2_e H
  refine zA_callV (as := [zrv x1, zI (zi h p21 i22 j23), zI (zi h p28 i29 j30), zrv x3]) (st' := []) rfl rfl rfl rfl rfl (zmE263 _ _ _ _) rfl (zmS263 C) ?_
  refine zA_ist2 rfl rfl rfl (zset1 (L' := [some (zrv x0), some (zrv x1), some (zrv x2), some (zrv x3), some (zrv x4), some (zI x5), some (zI x36), none, none]) rfl rfl (zpcV rfl rfl)) ?_
  refine zA_aldn rfl rfl rfl ?_
  refine zA_aldn rfl rfl rfl ?_
  refine zA_ld rfl rfl rfl ?_
  refine zA_push rfl rfl zkk5 ?_
  refine zA_st (st' := [zI (x5 + (1 : Int32)), zrv x0, zrv x2]) rfl rfl rfl rfl ?_
  obtain ⟨p37, i38, j39, e40, c41, c42, e43, H⟩ := zai_e H
  refine zA_ial rfl rfl e40 c41 c42 e43 ?_
  refine zA_aldn rfl rfl rfl ?_
  refine zA_ld rfl rfl rfl ?_
  refine zA_push rfl rfl zkk23 ?_
  refine zA_st (st' := [zI (x5 + (2 : Int32)), zrv x0, zI (zi h35 p37 i38 j39), zrv x2]) rfl rfl rfl rfl ?_
  obtain ⟨p44, i45, j46, e47, c48, c49, e50, H⟩ := zai_e H
  refine zA_ial rfl rfl e47 c48 c49 e50 ?_
  obtain ⟨p51, i52, e53, c54, H⟩ := zob_e H
  rcases zb_e H with ⟨x56, h55, C, H⟩ | ⟨E, h55, C, H⟩
  · refine zA_callV (as := [zrv x2, zI (zi h35 p37 i38 j39), zI (zi h35 p44 i45 j46)]) (st' := []) rfl rfl rfl (zrcv_Q e53 c54) rfl (zmE201 _ _ _) rfl (zmS201 C) ?_
    refine zA_ist2 rfl rfl rfl (zset1 (L' := [some (zrv x0), some (zrv x1), some (zrv x2), some (zrv x3), some (zrv x4), some (zI x5), some (zI x36), some (zI x56), none]) rfl rfl (zpcV rfl rfl)) ?_
    refine zA_aldn rfl rfl rfl ?_
    rcases zb_e H with ⟨x58, h57, C, H⟩ | ⟨E, h57, C, H⟩
    · refine zA_callV (as := [zrv x2]) (st' := []) rfl rfl rfl (zrcv_Q e53 c54) rfl (zmE137 _) rfl (zmS137 C) ?_
      refine zA_ld rfl rfl rfl ?_
      rcases zite_e H with ⟨c59, H⟩ | ⟨c59, H⟩
      · refine zA_brT (c := x58 = x36) rfl rfl rfl c59 ?_
        refine zA_ld rfl rfl rfl ?_
        rcases zite_e H with ⟨c60, H⟩ | ⟨c60, H⟩
        · refine zA_brF' (c := x36 = 0) rfl rfl rfl c60 ?_
          refine zA_aldn rfl rfl rfl ?_
          refine zA_push rfl rfl zkk7 ?_
          obtain ⟨p61, i62, j63, e64, c65, c66, e67, H⟩ := zar_e H
          refine zA_lal rfl rfl e64 c65 c66 e67 ?_
          refine zA_ld rfl rfl rfl ?_
          refine zA_st (st' := [zJ (x56.toInt64), zJ (zl h57 p61 i62 j63)]) rfl rfl rfl rfl ?_
          refine zA_st (st' := [zI (lg_cmp (zl h57 p61 i62 j63) (x56.toInt64))]) rfl rfl rfl rfl ?_
          rcases zite_e H with ⟨c68, H⟩ | ⟨c68, H⟩
          · refine zA_brT (c := (lg_cmp (zl h57 p61 i62 j63) (x56.toInt64)) = 0) rfl rfl rfl c68 ?_
            refine zA_tr (L := [some (zrv x0), some (zrv x1), some (zrv x2), some (zrv x3), some (zrv x4), some (zI x5), none, none, none]) rfl rfl ?_
            refine zA_go rfl rfl ?_
            exact zA_tr (L := [some (zrv x0), some (zrv x1), some (zrv x2), some (zrv x3), some (zrv x4), some (zI x5), none, none, none]) rfl rfl (zmS291_2349 hk16 _ _ _ _ _ _ _ _ _ H)
          · refine zA_brF (c := (lg_cmp (zl h57 p61 i62 j63) (x56.toInt64)) = 0) rfl rfl rfl c68 ?_
            refine zA_push rfl rfl zkk7 ?_
            cases H
            exact zA_ret rfl (zret_Z (by decide))
        · refine zA_brT' (c := x36 = 0) rfl rfl rfl c60 ?_
          refine zA_tr (L := [some (zrv x0), some (zrv x1), some (zrv x2), some (zrv x3), some (zrv x4), some (zI x5), none, none, none]) rfl rfl ?_
          refine zA_go rfl rfl ?_
          exact zA_tr (L := [some (zrv x0), some (zrv x1), some (zrv x2), some (zrv x3), some (zrv x4), some (zI x5), none, none, none]) rfl rfl (zmS291_2349 hk16 _ _ _ _ _ _ _ _ _ H)
      · refine zA_brF (c := x58 = x36) rfl rfl rfl c59 ?_
        refine zA_push rfl rfl zkk7 ?_
        cases H
        exact zA_ret rfl (zret_Z (by decide))
    · cases H
      exact zA_callX (as := [zrv x2]) (st' := []) rfl rfl (zrcv_Q e53 c54) rfl (zmE137 _) rfl rfl rfl (zmS137 C)
  · cases H
    exact zA_callX (as := [zrv x2, zI (zi h35 p37 i38 j39), zI (zi h35 p44 i45 j46)]) (st' := []) rfl rfl (zrcv_Q e53 c54) rfl (zmE201 _ _ _) rfl rfl rfl (zmS201 C)
def zm291_978 (k16 : zq → zq → zq → zq → zq → Int32 → zH → zRs Int32) (x0 : zq) (x1 : zq) (x2 : zq) (x3 : zq) (x4 : zq) (x5 : Int32) (h : zH) : zRs Int32 :=
  zai x0 (x5 + (1 : Int32)) h fun p21 i22 j23 =>
  zai x0 (x5 + (2 : Int32)) h fun p28 i29 j30 =>
  zb2 (zm262 x1 (zi h p21 i22 j23) (zi h p28 i29 j30) x3 h) fun x36 h35 =>
  zai x0 (x5 + (1 : Int32)) h35 fun p37 i38 j39 =>
  zai x0 (x5 + (2 : Int32)) h35 fun p44 i45 j46 =>
  zob 12 x2 fun p51 i52 =>
  zb (zm200 x2 (zi h35 p37 i38 j39) (zi h35 p44 i45 j46) h35) fun x56 h55 =>
  zb (zm137 x2 h55) fun x58 h57 =>
  if x58 = x36 then
    if x36 = 0 then
      zar 3 x3 (0 : Int32) h57 fun p61 i62 j63 =>
      if (lg_cmp (zl h57 p61 i62 j63) (x56.toInt64)) = 0 then
        zm291_2349 k16 x0 x1 x2 x3 x4 x5 h57
      else
        some (.inl (0 : Int32), h57)
    else
      zm291_2349 k16 x0 x1 x2 x3 x4 x5 h57
  else
    some (.inl (0 : Int32), h57)
theorem zmS291_978 {k16 : zq → zq → zq → zq → zq → Int32 → zH → zRs Int32} (hk16 : ∀ (x0 : zq) (x1 : zq) (x2 : zq) (x3 : zq) (x4 : zq) (x5 : Int32) (h : zH) (r : Int32 ⊕ Nat) (h' : zH), k16 x0 x1 x2 x3 x4 x5 h = some (r, h') → zAt 291 16 [some (zrv x0), some (zrv x1), some (zrv x2), some (zrv x3), some (zrv x4), some (zI x5), none, none, none] [] h (zoI r) h') : ∀ (x0 : zq) (x1 : zq) (x2 : zq) (x3 : zq) (x4 : zq) (x5 : Int32) (h : zH) (r : Int32 ⊕ Nat) (h' : zH), zm291_978 k16 x0 x1 x2 x3 x4 x5 h = some (r, h') → zAt 291 978 [some (zrv x0), some (zrv x1), some (zrv x2), some (zrv x3), some (zrv x4), some (zI x5), none, none, none] [] h (zoI r) h' := by
  intro x0 x1 x2 x3 x4 x5 h r h' H
  unfold zm291_978 at H
  refine zA_aldn rfl rfl rfl ?_
  refine zA_aldn rfl rfl rfl ?_
  refine zA_ld rfl rfl rfl ?_
  refine zA_push rfl rfl zkk5 ?_
  refine zA_st (st' := [zI (x5 + (1 : Int32)), zrv x0, zrv x1]) rfl rfl rfl rfl ?_
  obtain ⟨p21, i22, j23, e24, c25, c26, e27, H⟩ := zai_e H
  refine zA_ial rfl rfl e24 c25 c26 e27 ?_
  refine zA_aldn rfl rfl rfl ?_
  refine zA_ld rfl rfl rfl ?_
  refine zA_push rfl rfl zkk23 ?_
  refine zA_st (st' := [zI (x5 + (2 : Int32)), zrv x0, zI (zi h p21 i22 j23), zrv x1]) rfl rfl rfl rfl ?_
  obtain ⟨p28, i29, j30, e31, c32, c33, e34, H⟩ := zai_e H
  refine zA_ial rfl rfl e31 c32 c33 e34 ?_
  refine zA_aldn rfl rfl rfl ?_
  obtain ⟨x36, h35, C, H⟩ := zb2_e H
  refine zA_callV (as := [zrv x1, zI (zi h p21 i22 j23), zI (zi h p28 i29 j30), zrv x3]) (st' := []) rfl rfl rfl rfl rfl (zmE262 _ _ _ _) rfl (zmS262 C) ?_
  refine zA_ist2 rfl rfl rfl (zset1 (L' := [some (zrv x0), some (zrv x1), some (zrv x2), some (zrv x3), some (zrv x4), some (zI x5), some (zI x36), none, none]) rfl rfl (zpcV rfl rfl)) ?_
  refine zA_aldn rfl rfl rfl ?_
  refine zA_aldn rfl rfl rfl ?_
  refine zA_ld rfl rfl rfl ?_
  refine zA_push rfl rfl zkk5 ?_
  refine zA_st (st' := [zI (x5 + (1 : Int32)), zrv x0, zrv x2]) rfl rfl rfl rfl ?_
  obtain ⟨p37, i38, j39, e40, c41, c42, e43, H⟩ := zai_e H
  refine zA_ial rfl rfl e40 c41 c42 e43 ?_
  refine zA_aldn rfl rfl rfl ?_
  refine zA_ld rfl rfl rfl ?_
  refine zA_push rfl rfl zkk23 ?_
  refine zA_st (st' := [zI (x5 + (2 : Int32)), zrv x0, zI (zi h35 p37 i38 j39), zrv x2]) rfl rfl rfl rfl ?_
  obtain ⟨p44, i45, j46, e47, c48, c49, e50, H⟩ := zai_e H
  refine zA_ial rfl rfl e47 c48 c49 e50 ?_
  obtain ⟨p51, i52, e53, c54, H⟩ := zob_e H
  rcases zb_e H with ⟨x56, h55, C, H⟩ | ⟨E, h55, C, H⟩
  · refine zA_callV (as := [zrv x2, zI (zi h35 p37 i38 j39), zI (zi h35 p44 i45 j46)]) (st' := []) rfl rfl rfl (zrcv_Q e53 c54) rfl (zmE200 _ _ _) rfl (zmS200 C) ?_
    refine zA_ist2 rfl rfl rfl (zset1 (L' := [some (zrv x0), some (zrv x1), some (zrv x2), some (zrv x3), some (zrv x4), some (zI x5), some (zI x36), some (zI x56), none]) rfl rfl (zpcV rfl rfl)) ?_
    refine zA_aldn rfl rfl rfl ?_
    rcases zb_e H with ⟨x58, h57, C, H⟩ | ⟨E, h57, C, H⟩
    · refine zA_callV (as := [zrv x2]) (st' := []) rfl rfl rfl (zrcv_Q e53 c54) rfl (zmE137 _) rfl (zmS137 C) ?_
      refine zA_ld rfl rfl rfl ?_
      rcases zite_e H with ⟨c59, H⟩ | ⟨c59, H⟩
      · refine zA_brT (c := x58 = x36) rfl rfl rfl c59 ?_
        refine zA_ld rfl rfl rfl ?_
        rcases zite_e H with ⟨c60, H⟩ | ⟨c60, H⟩
        · refine zA_brF' (c := x36 = 0) rfl rfl rfl c60 ?_
          refine zA_aldn rfl rfl rfl ?_
          refine zA_push rfl rfl zkk7 ?_
          obtain ⟨p61, i62, j63, e64, c65, c66, e67, H⟩ := zar_e H
          refine zA_lal rfl rfl e64 c65 c66 e67 ?_
          refine zA_ld rfl rfl rfl ?_
          refine zA_st (st' := [zJ (x56.toInt64), zJ (zl h57 p61 i62 j63)]) rfl rfl rfl rfl ?_
          refine zA_st (st' := [zI (lg_cmp (zl h57 p61 i62 j63) (x56.toInt64))]) rfl rfl rfl rfl ?_
          rcases zite_e H with ⟨c68, H⟩ | ⟨c68, H⟩
          · refine zA_brT (c := (lg_cmp (zl h57 p61 i62 j63) (x56.toInt64)) = 0) rfl rfl rfl c68 ?_
            refine zA_tr (L := [some (zrv x0), some (zrv x1), some (zrv x2), some (zrv x3), some (zrv x4), some (zI x5), none, none, none]) rfl rfl ?_
            refine zA_go rfl rfl ?_
            exact zA_tr (L := [some (zrv x0), some (zrv x1), some (zrv x2), some (zrv x3), some (zrv x4), some (zI x5), none, none, none]) rfl rfl (zmS291_2349 hk16 _ _ _ _ _ _ _ _ _ H)
          · refine zA_brF (c := (lg_cmp (zl h57 p61 i62 j63) (x56.toInt64)) = 0) rfl rfl rfl c68 ?_
            refine zA_push rfl rfl zkk7 ?_
            cases H
            exact zA_ret rfl (zret_Z (by decide))
        · refine zA_brT' (c := x36 = 0) rfl rfl rfl c60 ?_
          refine zA_tr (L := [some (zrv x0), some (zrv x1), some (zrv x2), some (zrv x3), some (zrv x4), some (zI x5), none, none, none]) rfl rfl ?_
          refine zA_go rfl rfl ?_
          exact zA_tr (L := [some (zrv x0), some (zrv x1), some (zrv x2), some (zrv x3), some (zrv x4), some (zI x5), none, none, none]) rfl rfl (zmS291_2349 hk16 _ _ _ _ _ _ _ _ _ H)
      · refine zA_brF (c := x58 = x36) rfl rfl rfl c59 ?_
        refine zA_push rfl rfl zkk7 ?_
        cases H
        exact zA_ret rfl (zret_Z (by decide))
    · cases H
      exact zA_callX (as := [zrv x2]) (st' := []) rfl rfl (zrcv_Q e53 c54) rfl (zmE137 _) rfl rfl rfl (zmS137 C)
  · cases H
    exact zA_callX (as := [zrv x2, zI (zi h35 p37 i38 j39), zI (zi h35 p44 i45 j46)]) (st' := []) rfl rfl (zrcv_Q e53 c54) rfl (zmE200 _ _ _) rfl rfl rfl (zmS200 C)
def zm291_933 (k16 : zq → zq → zq → zq → zq → Int32 → zH → zRs Int32) (x0 : zq) (x1 : zq) (x2 : zq) (x3 : zq) (x4 : zq) (x5 : Int32) (h : zH) : zRs Int32 :=
  zai x0 (x5 + (1 : Int32)) h fun p21 i22 j23 =>
  zai x0 (x5 + (2 : Int32)) h fun p28 i29 j30 =>
  zb2 (zm261 x1 (zi h p21 i22 j23) (zi h p28 i29 j30) x3 h) fun x36 h35 =>
  zai x0 (x5 + (1 : Int32)) h35 fun p37 i38 j39 =>
  zai x0 (x5 + (2 : Int32)) h35 fun p44 i45 j46 =>
  zob 12 x2 fun p51 i52 =>
  zb (zm199 x2 (zi h35 p37 i38 j39) (zi h35 p44 i45 j46) h35) fun x56 h55 =>
  zb (zm137 x2 h55) fun x58 h57 =>
  if x58 = x36 then
    if x36 = 0 then
      zar 3 x3 (0 : Int32) h57 fun p61 i62 j63 =>
      if (lg_cmp (zl h57 p61 i62 j63) (x56.toInt64)) = 0 then
        zm291_2349 k16 x0 x1 x2 x3 x4 x5 h57
      else
        some (.inl (0 : Int32), h57)
    else
      zm291_2349 k16 x0 x1 x2 x3 x4 x5 h57
  else
    some (.inl (0 : Int32), h57)
theorem zmS291_933 {k16 : zq → zq → zq → zq → zq → Int32 → zH → zRs Int32} (hk16 : ∀ (x0 : zq) (x1 : zq) (x2 : zq) (x3 : zq) (x4 : zq) (x5 : Int32) (h : zH) (r : Int32 ⊕ Nat) (h' : zH), k16 x0 x1 x2 x3 x4 x5 h = some (r, h') → zAt 291 16 [some (zrv x0), some (zrv x1), some (zrv x2), some (zrv x3), some (zrv x4), some (zI x5), none, none, none] [] h (zoI r) h') : ∀ (x0 : zq) (x1 : zq) (x2 : zq) (x3 : zq) (x4 : zq) (x5 : Int32) (h : zH) (r : Int32 ⊕ Nat) (h' : zH), zm291_933 k16 x0 x1 x2 x3 x4 x5 h = some (r, h') → zAt 291 933 [some (zrv x0), some (zrv x1), some (zrv x2), some (zrv x3), some (zrv x4), some (zI x5), none, none, none] [] h (zoI r) h' := by
  intro x0 x1 x2 x3 x4 x5 h r h' H
  unfold zm291_933 at H
  refine zA_aldn rfl rfl rfl ?_
  refine zA_aldn rfl rfl rfl ?_
  refine zA_ld rfl rfl rfl ?_
  refine zA_push rfl rfl zkk5 ?_
  refine zA_st (st' := [zI (x5 + (1 : Int32)), zrv x0, zrv x1]) rfl rfl rfl rfl ?_
  obtain ⟨p21, i22, j23, e24, c25, c26, e27, H⟩ := zai_e H
  refine zA_ial rfl rfl e24 c25 c26 e27 ?_
  refine zA_aldn rfl rfl rfl ?_
  refine zA_ld rfl rfl rfl ?_
  refine zA_push rfl rfl zkk23 ?_
  refine zA_st (st' := [zI (x5 + (2 : Int32)), zrv x0, zI (zi h p21 i22 j23), zrv x1]) rfl rfl rfl rfl ?_
  obtain ⟨p28, i29, j30, e31, c32, c33, e34, H⟩ := zai_e H
  refine zA_ial rfl rfl e31 c32 c33 e34 ?_
  refine zA_aldn rfl rfl rfl ?_
  obtain ⟨x36, h35, C, H⟩ := zb2_e H
  refine zA_callV (as := [zrv x1, zI (zi h p21 i22 j23), zI (zi h p28 i29 j30), zrv x3]) (st' := []) rfl rfl rfl rfl rfl (zmE261 _ _ _ _) rfl (zmS261 C) ?_
  refine zA_ist2 rfl rfl rfl (zset1 (L' := [some (zrv x0), some (zrv x1), some (zrv x2), some (zrv x3), some (zrv x4), some (zI x5), some (zI x36), none, none]) rfl rfl (zpcV rfl rfl)) ?_
  refine zA_aldn rfl rfl rfl ?_
  refine zA_aldn rfl rfl rfl ?_
  refine zA_ld rfl rfl rfl ?_
  refine zA_push rfl rfl zkk5 ?_
  refine zA_st (st' := [zI (x5 + (1 : Int32)), zrv x0, zrv x2]) rfl rfl rfl rfl ?_
  obtain ⟨p37, i38, j39, e40, c41, c42, e43, H⟩ := zai_e H
  refine zA_ial rfl rfl e40 c41 c42 e43 ?_
  refine zA_aldn rfl rfl rfl ?_
  refine zA_ld rfl rfl rfl ?_
  refine zA_push rfl rfl zkk23 ?_
  refine zA_st (st' := [zI (x5 + (2 : Int32)), zrv x0, zI (zi h35 p37 i38 j39), zrv x2]) rfl rfl rfl rfl ?_
  obtain ⟨p44, i45, j46, e47, c48, c49, e50, H⟩ := zai_e H
  refine zA_ial rfl rfl e47 c48 c49 e50 ?_
  obtain ⟨p51, i52, e53, c54, H⟩ := zob_e H
  rcases zb_e H with ⟨x56, h55, C, H⟩ | ⟨E, h55, C, H⟩
  · refine zA_callV (as := [zrv x2, zI (zi h35 p37 i38 j39), zI (zi h35 p44 i45 j46)]) (st' := []) rfl rfl rfl (zrcv_Q e53 c54) rfl (zmE199 _ _ _) rfl (zmS199 C) ?_
    refine zA_ist2 rfl rfl rfl (zset1 (L' := [some (zrv x0), some (zrv x1), some (zrv x2), some (zrv x3), some (zrv x4), some (zI x5), some (zI x36), some (zI x56), none]) rfl rfl (zpcV rfl rfl)) ?_
    refine zA_aldn rfl rfl rfl ?_
    rcases zb_e H with ⟨x58, h57, C, H⟩ | ⟨E, h57, C, H⟩
    · refine zA_callV (as := [zrv x2]) (st' := []) rfl rfl rfl (zrcv_Q e53 c54) rfl (zmE137 _) rfl (zmS137 C) ?_
      refine zA_ld rfl rfl rfl ?_
      rcases zite_e H with ⟨c59, H⟩ | ⟨c59, H⟩
      · refine zA_brT (c := x58 = x36) rfl rfl rfl c59 ?_
        refine zA_ld rfl rfl rfl ?_
        rcases zite_e H with ⟨c60, H⟩ | ⟨c60, H⟩
        · refine zA_brF' (c := x36 = 0) rfl rfl rfl c60 ?_
          refine zA_aldn rfl rfl rfl ?_
          refine zA_push rfl rfl zkk7 ?_
          obtain ⟨p61, i62, j63, e64, c65, c66, e67, H⟩ := zar_e H
          refine zA_lal rfl rfl e64 c65 c66 e67 ?_
          refine zA_ld rfl rfl rfl ?_
          refine zA_st (st' := [zJ (x56.toInt64), zJ (zl h57 p61 i62 j63)]) rfl rfl rfl rfl ?_
          refine zA_st (st' := [zI (lg_cmp (zl h57 p61 i62 j63) (x56.toInt64))]) rfl rfl rfl rfl ?_
          rcases zite_e H with ⟨c68, H⟩ | ⟨c68, H⟩
          · refine zA_brT (c := (lg_cmp (zl h57 p61 i62 j63) (x56.toInt64)) = 0) rfl rfl rfl c68 ?_
            refine zA_tr (L := [some (zrv x0), some (zrv x1), some (zrv x2), some (zrv x3), some (zrv x4), some (zI x5), none, none, none]) rfl rfl ?_
            refine zA_go rfl rfl ?_
            exact zA_tr (L := [some (zrv x0), some (zrv x1), some (zrv x2), some (zrv x3), some (zrv x4), some (zI x5), none, none, none]) rfl rfl (zmS291_2349 hk16 _ _ _ _ _ _ _ _ _ H)
          · refine zA_brF (c := (lg_cmp (zl h57 p61 i62 j63) (x56.toInt64)) = 0) rfl rfl rfl c68 ?_
            refine zA_push rfl rfl zkk7 ?_
            cases H
            exact zA_ret rfl (zret_Z (by decide))
        · refine zA_brT' (c := x36 = 0) rfl rfl rfl c60 ?_
          refine zA_tr (L := [some (zrv x0), some (zrv x1), some (zrv x2), some (zrv x3), some (zrv x4), some (zI x5), none, none, none]) rfl rfl ?_
          refine zA_go rfl rfl ?_
          exact zA_tr (L := [some (zrv x0), some (zrv x1), some (zrv x2), some (zrv x3), some (zrv x4), some (zI x5), none, none, none]) rfl rfl (zmS291_2349 hk16 _ _ _ _ _ _ _ _ _ H)
      · refine zA_brF (c := x58 = x36) rfl rfl rfl c59 ?_
        refine zA_push rfl rfl zkk7 ?_
        cases H
        exact zA_ret rfl (zret_Z (by decide))
    · cases H
      exact zA_callX (as := [zrv x2]) (st' := []) rfl rfl (zrcv_Q e53 c54) rfl (zmE137 _) rfl rfl rfl (zmS137 C)
  · cases H
    exact zA_callX (as := [zrv x2, zI (zi h35 p37 i38 j39), zI (zi h35 p44 i45 j46)]) (st' := []) rfl rfl (zrcv_Q e53 c54) rfl (zmE199 _ _ _) rfl rfl rfl (zmS199 C)
def zm291_888 (k16 : zq → zq → zq → zq → zq → Int32 → zH → zRs Int32) (x0 : zq) (x1 : zq) (x2 : zq) (x3 : zq) (x4 : zq) (x5 : Int32) (h : zH) : zRs Int32 :=
  zai x0 (x5 + (1 : Int32)) h fun p21 i22 j23 =>
  zai x0 (x5 + (2 : Int32)) h fun p28 i29 j30 =>
  zb2 (zm260 x1 (zi h p21 i22 j23) (zi h p28 i29 j30) x3 h) fun x36 h35 =>
  zai x0 (x5 + (1 : Int32)) h35 fun p37 i38 j39 =>
  zai x0 (x5 + (2 : Int32)) h35 fun p44 i45 j46 =>
  zob 12 x2 fun p51 i52 =>
  zb (zm198 x2 (zi h35 p37 i38 j39) (zi h35 p44 i45 j46) h35) fun x56 h55 =>
  zb (zm137 x2 h55) fun x58 h57 =>
  if x58 = x36 then
    if x36 = 0 then
      zar 3 x3 (0 : Int32) h57 fun p61 i62 j63 =>
      if (lg_cmp (zl h57 p61 i62 j63) (x56.toInt64)) = 0 then
        zm291_2349 k16 x0 x1 x2 x3 x4 x5 h57
      else
        some (.inl (0 : Int32), h57)
    else
      zm291_2349 k16 x0 x1 x2 x3 x4 x5 h57
  else
    some (.inl (0 : Int32), h57)
theorem zmS291_888 {k16 : zq → zq → zq → zq → zq → Int32 → zH → zRs Int32} (hk16 : ∀ (x0 : zq) (x1 : zq) (x2 : zq) (x3 : zq) (x4 : zq) (x5 : Int32) (h : zH) (r : Int32 ⊕ Nat) (h' : zH), k16 x0 x1 x2 x3 x4 x5 h = some (r, h') → zAt 291 16 [some (zrv x0), some (zrv x1), some (zrv x2), some (zrv x3), some (zrv x4), some (zI x5), none, none, none] [] h (zoI r) h') : ∀ (x0 : zq) (x1 : zq) (x2 : zq) (x3 : zq) (x4 : zq) (x5 : Int32) (h : zH) (r : Int32 ⊕ Nat) (h' : zH), zm291_888 k16 x0 x1 x2 x3 x4 x5 h = some (r, h') → zAt 291 888 [some (zrv x0), some (zrv x1), some (zrv x2), some (zrv x3), some (zrv x4), some (zI x5), none, none, none] [] h (zoI r) h' := by
  intro x0 x1 x2 x3 x4 x5 h r h' H
  unfold zm291_888 at H
  refine zA_aldn rfl rfl rfl ?_
  refine zA_aldn rfl rfl rfl ?_
  refine zA_ld rfl rfl rfl ?_
  refine zA_push rfl rfl zkk5 ?_
  refine zA_st (st' := [zI (x5 + (1 : Int32)), zrv x0, zrv x1]) rfl rfl rfl rfl ?_
  obtain ⟨p21, i22, j23, e24, c25, c26, e27, H⟩ := zai_e H
  refine zA_ial rfl rfl e24 c25 c26 e27 ?_
  refine zA_aldn rfl rfl rfl ?_
  refine zA_ld rfl rfl rfl ?_
  refine zA_push rfl rfl zkk23 ?_
  refine zA_st (st' := [zI (x5 + (2 : Int32)), zrv x0, zI (zi h p21 i22 j23), zrv x1]) rfl rfl rfl rfl ?_
  obtain ⟨p28, i29, j30, e31, c32, c33, e34, H⟩ := zai_e H
  refine zA_ial rfl rfl e31 c32 c33 e34 ?_
  refine zA_aldn rfl rfl rfl ?_
  obtain ⟨x36, h35, C, H⟩ := zb2_e H
  refine zA_callV (as := [zrv x1, zI (zi h p21 i22 j23), zI (zi h p28 i29 j30), zrv x3]) (st' := []) rfl rfl rfl rfl rfl (zmE260 _ _ _ _) rfl (zmS260 C) ?_
  refine zA_ist2 rfl rfl rfl (zset1 (L' := [some (zrv x0), some (zrv x1), some (zrv x2), some (zrv x3), some (zrv x4), some (zI x5), some (zI x36), none, none]) rfl rfl (zpcV rfl rfl)) ?_
  refine zA_aldn rfl rfl rfl ?_
  refine zA_aldn rfl rfl rfl ?_
  refine zA_ld rfl rfl rfl ?_
  refine zA_push rfl rfl zkk5 ?_
  refine zA_st (st' := [zI (x5 + (1 : Int32)), zrv x0, zrv x2]) rfl rfl rfl rfl ?_
  obtain ⟨p37, i38, j39, e40, c41, c42, e43, H⟩ := zai_e H
  refine zA_ial rfl rfl e40 c41 c42 e43 ?_
  refine zA_aldn rfl rfl rfl ?_
  refine zA_ld rfl rfl rfl ?_
  refine zA_push rfl rfl zkk23 ?_
  refine zA_st (st' := [zI (x5 + (2 : Int32)), zrv x0, zI (zi h35 p37 i38 j39), zrv x2]) rfl rfl rfl rfl ?_
  obtain ⟨p44, i45, j46, e47, c48, c49, e50, H⟩ := zai_e H
  refine zA_ial rfl rfl e47 c48 c49 e50 ?_
  obtain ⟨p51, i52, e53, c54, H⟩ := zob_e H
  rcases zb_e H with ⟨x56, h55, C, H⟩ | ⟨E, h55, C, H⟩
  · refine zA_callV (as := [zrv x2, zI (zi h35 p37 i38 j39), zI (zi h35 p44 i45 j46)]) (st' := []) rfl rfl rfl (zrcv_Q e53 c54) rfl (zmE198 _ _ _) rfl (zmS198 C) ?_
    refine zA_ist2 rfl rfl rfl (zset1 (L' := [some (zrv x0), some (zrv x1), some (zrv x2), some (zrv x3), some (zrv x4), some (zI x5), some (zI x36), some (zI x56), none]) rfl rfl (zpcV rfl rfl)) ?_
    refine zA_aldn rfl rfl rfl ?_
    rcases zb_e H with ⟨x58, h57, C, H⟩ | ⟨E, h57, C, H⟩
    · refine zA_callV (as := [zrv x2]) (st' := []) rfl rfl rfl (zrcv_Q e53 c54) rfl (zmE137 _) rfl (zmS137 C) ?_
      refine zA_ld rfl rfl rfl ?_
      rcases zite_e H with ⟨c59, H⟩ | ⟨c59, H⟩
      · refine zA_brT (c := x58 = x36) rfl rfl rfl c59 ?_
        refine zA_ld rfl rfl rfl ?_
        rcases zite_e H with ⟨c60, H⟩ | ⟨c60, H⟩
        · refine zA_brF' (c := x36 = 0) rfl rfl rfl c60 ?_
          refine zA_aldn rfl rfl rfl ?_
          refine zA_push rfl rfl zkk7 ?_
          obtain ⟨p61, i62, j63, e64, c65, c66, e67, H⟩ := zar_e H
          refine zA_lal rfl rfl e64 c65 c66 e67 ?_
          refine zA_ld rfl rfl rfl ?_
          refine zA_st (st' := [zJ (x56.toInt64), zJ (zl h57 p61 i62 j63)]) rfl rfl rfl rfl ?_
          refine zA_st (st' := [zI (lg_cmp (zl h57 p61 i62 j63) (x56.toInt64))]) rfl rfl rfl rfl ?_
          rcases zite_e H with ⟨c68, H⟩ | ⟨c68, H⟩
          · refine zA_brT (c := (lg_cmp (zl h57 p61 i62 j63) (x56.toInt64)) = 0) rfl rfl rfl c68 ?_
            refine zA_tr (L := [some (zrv x0), some (zrv x1), some (zrv x2), some (zrv x3), some (zrv x4), some (zI x5), none, none, none]) rfl rfl ?_
            refine zA_go rfl rfl ?_
            exact zA_tr (L := [some (zrv x0), some (zrv x1), some (zrv x2), some (zrv x3), some (zrv x4), some (zI x5), none, none, none]) rfl rfl (zmS291_2349 hk16 _ _ _ _ _ _ _ _ _ H)
          · refine zA_brF (c := (lg_cmp (zl h57 p61 i62 j63) (x56.toInt64)) = 0) rfl rfl rfl c68 ?_
            refine zA_push rfl rfl zkk7 ?_
            cases H
            exact zA_ret rfl (zret_Z (by decide))
        · refine zA_brT' (c := x36 = 0) rfl rfl rfl c60 ?_
          refine zA_tr (L := [some (zrv x0), some (zrv x1), some (zrv x2), some (zrv x3), some (zrv x4), some (zI x5), none, none, none]) rfl rfl ?_
          refine zA_go rfl rfl ?_
          exact zA_tr (L := [some (zrv x0), some (zrv x1), some (zrv x2), some (zrv x3), some (zrv x4), some (zI x5), none, none, none]) rfl rfl (zmS291_2349 hk16 _ _ _ _ _ _ _ _ _ H)
      · refine zA_brF (c := x58 = x36) rfl rfl rfl c59 ?_
        refine zA_push rfl rfl zkk7 ?_
        cases H
        exact zA_ret rfl (zret_Z (by decide))
    · cases H
      exact zA_callX (as := [zrv x2]) (st' := []) rfl rfl (zrcv_Q e53 c54) rfl (zmE137 _) rfl rfl rfl (zmS137 C)
  · cases H
    exact zA_callX (as := [zrv x2, zI (zi h35 p37 i38 j39), zI (zi h35 p44 i45 j46)]) (st' := []) rfl rfl (zrcv_Q e53 c54) rfl (zmE198 _ _ _) rfl rfl rfl (zmS198 C)
def zm291_843 (k16 : zq → zq → zq → zq → zq → Int32 → zH → zRs Int32) (x0 : zq) (x1 : zq) (x2 : zq) (x3 : zq) (x4 : zq) (x5 : Int32) (h : zH) : zRs Int32 :=
  zai x0 (x5 + (1 : Int32)) h fun p21 i22 j23 =>
  zai x0 (x5 + (2 : Int32)) h fun p28 i29 j30 =>
  zb2 (zm259 x1 (zi h p21 i22 j23) (zi h p28 i29 j30) x3 h) fun x36 h35 =>
  zai x0 (x5 + (1 : Int32)) h35 fun p37 i38 j39 =>
  zai x0 (x5 + (2 : Int32)) h35 fun p44 i45 j46 =>
  zob 12 x2 fun p51 i52 =>
  zb (zm197 x2 (zi h35 p37 i38 j39) (zi h35 p44 i45 j46) h35) fun x56 h55 =>
  zb (zm137 x2 h55) fun x58 h57 =>
  if x58 = x36 then
    if x36 = 0 then
      zar 3 x3 (0 : Int32) h57 fun p61 i62 j63 =>
      if (lg_cmp (zl h57 p61 i62 j63) (x56.toInt64)) = 0 then
        zm291_2349 k16 x0 x1 x2 x3 x4 x5 h57
      else
        some (.inl (0 : Int32), h57)
    else
      zm291_2349 k16 x0 x1 x2 x3 x4 x5 h57
  else
    some (.inl (0 : Int32), h57)
theorem zmS291_843 {k16 : zq → zq → zq → zq → zq → Int32 → zH → zRs Int32} (hk16 : ∀ (x0 : zq) (x1 : zq) (x2 : zq) (x3 : zq) (x4 : zq) (x5 : Int32) (h : zH) (r : Int32 ⊕ Nat) (h' : zH), k16 x0 x1 x2 x3 x4 x5 h = some (r, h') → zAt 291 16 [some (zrv x0), some (zrv x1), some (zrv x2), some (zrv x3), some (zrv x4), some (zI x5), none, none, none] [] h (zoI r) h') : ∀ (x0 : zq) (x1 : zq) (x2 : zq) (x3 : zq) (x4 : zq) (x5 : Int32) (h : zH) (r : Int32 ⊕ Nat) (h' : zH), zm291_843 k16 x0 x1 x2 x3 x4 x5 h = some (r, h') → zAt 291 843 [some (zrv x0), some (zrv x1), some (zrv x2), some (zrv x3), some (zrv x4), some (zI x5), none, none, none] [] h (zoI r) h' := by
  intro x0 x1 x2 x3 x4 x5 h r h' H
  unfold zm291_843 at H
  refine zA_aldn rfl rfl rfl ?_
  refine zA_aldn rfl rfl rfl ?_
  refine zA_ld rfl rfl rfl ?_
  refine zA_push rfl rfl zkk5 ?_
  refine zA_st (st' := [zI (x5 + (1 : Int32)), zrv x0, zrv x1]) rfl rfl rfl rfl ?_
  obtain ⟨p21, i22, j23, e24, c25, c26, e27, H⟩ := zai_e H
  refine zA_ial rfl rfl e24 c25 c26 e27 ?_
  refine zA_aldn rfl rfl rfl ?_
  refine zA_ld rfl rfl rfl ?_
  refine zA_push rfl rfl zkk23 ?_
  refine zA_st (st' := [zI (x5 + (2 : Int32)), zrv x0, zI (zi h p21 i22 j23), zrv x1]) rfl rfl rfl rfl ?_
  obtain ⟨p28, i29, j30, e31, c32, c33, e34, H⟩ := zai_e H
  refine zA_ial rfl rfl e31 c32 c33 e34 ?_
  refine zA_aldn rfl rfl rfl ?_
  obtain ⟨x36, h35, C, H⟩ := zb2_e H
  refine zA_callV (as := [zrv x1, zI (zi h p21 i22 j23), zI (zi h p28 i29 j30), zrv x3]) (st' := []) rfl rfl rfl rfl rfl (zmE259 _ _ _ _) rfl (zmS259 C) ?_
  refine zA_ist2 rfl rfl rfl (zset1 (L' := [some (zrv x0), some (zrv x1), some (zrv x2), some (zrv x3), some (zrv x4), some (zI x5), some (zI x36), none, none]) rfl rfl (zpcV rfl rfl)) ?_
  refine zA_aldn rfl rfl rfl ?_
  refine zA_aldn rfl rfl rfl ?_
  refine zA_ld rfl rfl rfl ?_
  refine zA_push rfl rfl zkk5 ?_
  refine zA_st (st' := [zI (x5 + (1 : Int32)), zrv x0, zrv x2]) rfl rfl rfl rfl ?_
  obtain ⟨p37, i38, j39, e40, c41, c42, e43, H⟩ := zai_e H
  refine zA_ial rfl rfl e40 c41 c42 e43 ?_
  refine zA_aldn rfl rfl rfl ?_
  refine zA_ld rfl rfl rfl ?_
  refine zA_push rfl rfl zkk23 ?_
  refine zA_st (st' := [zI (x5 + (2 : Int32)), zrv x0, zI (zi h35 p37 i38 j39), zrv x2]) rfl rfl rfl rfl ?_
  obtain ⟨p44, i45, j46, e47, c48, c49, e50, H⟩ := zai_e H
  refine zA_ial rfl rfl e47 c48 c49 e50 ?_
  obtain ⟨p51, i52, e53, c54, H⟩ := zob_e H
  rcases zb_e H with ⟨x56, h55, C, H⟩ | ⟨E, h55, C, H⟩
  · refine zA_callV (as := [zrv x2, zI (zi h35 p37 i38 j39), zI (zi h35 p44 i45 j46)]) (st' := []) rfl rfl rfl (zrcv_Q e53 c54) rfl (zmE197 _ _ _) rfl (zmS197 C) ?_
    refine zA_ist2 rfl rfl rfl (zset1 (L' := [some (zrv x0), some (zrv x1), some (zrv x2), some (zrv x3), some (zrv x4), some (zI x5), some (zI x36), some (zI x56), none]) rfl rfl (zpcV rfl rfl)) ?_
    refine zA_aldn rfl rfl rfl ?_
    rcases zb_e H with ⟨x58, h57, C, H⟩ | ⟨E, h57, C, H⟩
    · refine zA_callV (as := [zrv x2]) (st' := []) rfl rfl rfl (zrcv_Q e53 c54) rfl (zmE137 _) rfl (zmS137 C) ?_
      refine zA_ld rfl rfl rfl ?_
      rcases zite_e H with ⟨c59, H⟩ | ⟨c59, H⟩
      · refine zA_brT (c := x58 = x36) rfl rfl rfl c59 ?_
        refine zA_ld rfl rfl rfl ?_
        rcases zite_e H with ⟨c60, H⟩ | ⟨c60, H⟩
        · refine zA_brF' (c := x36 = 0) rfl rfl rfl c60 ?_
          refine zA_aldn rfl rfl rfl ?_
          refine zA_push rfl rfl zkk7 ?_
          obtain ⟨p61, i62, j63, e64, c65, c66, e67, H⟩ := zar_e H
          refine zA_lal rfl rfl e64 c65 c66 e67 ?_
          refine zA_ld rfl rfl rfl ?_
          refine zA_st (st' := [zJ (x56.toInt64), zJ (zl h57 p61 i62 j63)]) rfl rfl rfl rfl ?_
          refine zA_st (st' := [zI (lg_cmp (zl h57 p61 i62 j63) (x56.toInt64))]) rfl rfl rfl rfl ?_
          rcases zite_e H with ⟨c68, H⟩ | ⟨c68, H⟩
          · refine zA_brT (c := (lg_cmp (zl h57 p61 i62 j63) (x56.toInt64)) = 0) rfl rfl rfl c68 ?_
            refine zA_tr (L := [some (zrv x0), some (zrv x1), some (zrv x2), some (zrv x3), some (zrv x4), some (zI x5), none, none, none]) rfl rfl ?_
            refine zA_go rfl rfl ?_
            exact zA_tr (L := [some (zrv x0), some (zrv x1), some (zrv x2), some (zrv x3), some (zrv x4), some (zI x5), none, none, none]) rfl rfl (zmS291_2349 hk16 _ _ _ _ _ _ _ _ _ H)
          · refine zA_brF (c := (lg_cmp (zl h57 p61 i62 j63) (x56.toInt64)) = 0) rfl rfl rfl c68 ?_
            refine zA_push rfl rfl zkk7 ?_
            cases H
            exact zA_ret rfl (zret_Z (by decide))
        · refine zA_brT' (c := x36 = 0) rfl rfl rfl c60 ?_
          refine zA_tr (L := [some (zrv x0), some (zrv x1), some (zrv x2), some (zrv x3), some (zrv x4), some (zI x5), none, none, none]) rfl rfl ?_
          refine zA_go rfl rfl ?_
          exact zA_tr (L := [some (zrv x0), some (zrv x1), some (zrv x2), some (zrv x3), some (zrv x4), some (zI x5), none, none, none]) rfl rfl (zmS291_2349 hk16 _ _ _ _ _ _ _ _ _ H)
      · refine zA_brF (c := x58 = x36) rfl rfl rfl c59 ?_
        refine zA_push rfl rfl zkk7 ?_
        cases H
        exact zA_ret rfl (zret_Z (by decide))
    · cases H
      exact zA_callX (as := [zrv x2]) (st' := []) rfl rfl (zrcv_Q e53 c54) rfl (zmE137 _) rfl rfl rfl (zmS137 C)
  · cases H
    exact zA_callX (as := [zrv x2, zI (zi h35 p37 i38 j39), zI (zi h35 p44 i45 j46)]) (st' := []) rfl rfl (zrcv_Q e53 c54) rfl (zmE197 _ _ _) rfl rfl rfl (zmS197 C)
def zm291_798 (k16 : zq → zq → zq → zq → zq → Int32 → zH → zRs Int32) (x0 : zq) (x1 : zq) (x2 : zq) (x3 : zq) (x4 : zq) (x5 : Int32) (h : zH) : zRs Int32 :=
  zai x0 (x5 + (1 : Int32)) h fun p21 i22 j23 =>
  zai x0 (x5 + (2 : Int32)) h fun p28 i29 j30 =>
  zb2 (zm258 x1 (zi h p21 i22 j23) (zi h p28 i29 j30) x3 h) fun x36 h35 =>
  zai x0 (x5 + (1 : Int32)) h35 fun p37 i38 j39 =>
  zai x0 (x5 + (2 : Int32)) h35 fun p44 i45 j46 =>
  zob 12 x2 fun p51 i52 =>
  zb (zm194 x2 (zi h35 p37 i38 j39) (zi h35 p44 i45 j46) h35) fun x56 h55 =>
  zb (zm137 x2 h55) fun x58 h57 =>
  if x58 = x36 then
    if x36 = 0 then
      zar 3 x3 (0 : Int32) h57 fun p61 i62 j63 =>
      if (lg_cmp (zl h57 p61 i62 j63) (x56.toInt64)) = 0 then
        zm291_2349 k16 x0 x1 x2 x3 x4 x5 h57
      else
        some (.inl (0 : Int32), h57)
    else
      zm291_2349 k16 x0 x1 x2 x3 x4 x5 h57
  else
    some (.inl (0 : Int32), h57)
theorem zmS291_798 {k16 : zq → zq → zq → zq → zq → Int32 → zH → zRs Int32} (hk16 : ∀ (x0 : zq) (x1 : zq) (x2 : zq) (x3 : zq) (x4 : zq) (x5 : Int32) (h : zH) (r : Int32 ⊕ Nat) (h' : zH), k16 x0 x1 x2 x3 x4 x5 h = some (r, h') → zAt 291 16 [some (zrv x0), some (zrv x1), some (zrv x2), some (zrv x3), some (zrv x4), some (zI x5), none, none, none] [] h (zoI r) h') : ∀ (x0 : zq) (x1 : zq) (x2 : zq) (x3 : zq) (x4 : zq) (x5 : Int32) (h : zH) (r : Int32 ⊕ Nat) (h' : zH), zm291_798 k16 x0 x1 x2 x3 x4 x5 h = some (r, h') → zAt 291 798 [some (zrv x0), some (zrv x1), some (zrv x2), some (zrv x3), some (zrv x4), some (zI x5), none, none, none] [] h (zoI r) h' := by
  intro x0 x1 x2 x3 x4 x5 h r h' H
  unfold zm291_798 at H
  refine zA_aldn rfl rfl rfl ?_
  refine zA_aldn rfl rfl rfl ?_
  refine zA_ld rfl rfl rfl ?_
  refine zA_push rfl rfl zkk5 ?_
  refine zA_st (st' := [zI (x5 + (1 : Int32)), zrv x0, zrv x1]) rfl rfl rfl rfl ?_
  obtain ⟨p21, i22, j23, e24, c25, c26, e27, H⟩ := zai_e H
  refine zA_ial rfl rfl e24 c25 c26 e27 ?_
  refine zA_aldn rfl rfl rfl ?_
  refine zA_ld rfl rfl rfl ?_
  refine zA_push rfl rfl zkk23 ?_
  refine zA_st (st' := [zI (x5 + (2 : Int32)), zrv x0, zI (zi h p21 i22 j23), zrv x1]) rfl rfl rfl rfl ?_
  obtain ⟨p28, i29, j30, e31, c32, c33, e34, H⟩ := zai_e H
  refine zA_ial rfl rfl e31 c32 c33 e34 ?_
  refine zA_aldn rfl rfl rfl ?_
  obtain ⟨x36, h35, C, H⟩ := zb2_e H
  refine zA_callV (as := [zrv x1, zI (zi h p21 i22 j23), zI (zi h p28 i29 j30), zrv x3]) (st' := []) rfl rfl rfl rfl rfl (zmE258 _ _ _ _) rfl (zmS258 C) ?_
  refine zA_ist2 rfl rfl rfl (zset1 (L' := [some (zrv x0), some (zrv x1), some (zrv x2), some (zrv x3), some (zrv x4), some (zI x5), some (zI x36), none, none]) rfl rfl (zpcV rfl rfl)) ?_
  refine zA_aldn rfl rfl rfl ?_
  refine zA_aldn rfl rfl rfl ?_
  refine zA_ld rfl rfl rfl ?_
  refine zA_push rfl rfl zkk5 ?_
  refine zA_st (st' := [zI (x5 + (1 : Int32)), zrv x0, zrv x2]) rfl rfl rfl rfl ?_
  obtain ⟨p37, i38, j39, e40, c41, c42, e43, H⟩ := zai_e H
  refine zA_ial rfl rfl e40 c41 c42 e43 ?_
  refine zA_aldn rfl rfl rfl ?_
  refine zA_ld rfl rfl rfl ?_
  refine zA_push rfl rfl zkk23 ?_
  refine zA_st (st' := [zI (x5 + (2 : Int32)), zrv x0, zI (zi h35 p37 i38 j39), zrv x2]) rfl rfl rfl rfl ?_
  obtain ⟨p44, i45, j46, e47, c48, c49, e50, H⟩ := zai_e H
  refine zA_ial rfl rfl e47 c48 c49 e50 ?_
  obtain ⟨p51, i52, e53, c54, H⟩ := zob_e H
  rcases zb_e H with ⟨x56, h55, C, H⟩ | ⟨E, h55, C, H⟩
  · refine zA_callV (as := [zrv x2, zI (zi h35 p37 i38 j39), zI (zi h35 p44 i45 j46)]) (st' := []) rfl rfl rfl (zrcv_Q e53 c54) rfl (zmE194 _ _ _) rfl (zmS194 C) ?_
    refine zA_ist2 rfl rfl rfl (zset1 (L' := [some (zrv x0), some (zrv x1), some (zrv x2), some (zrv x3), some (zrv x4), some (zI x5), some (zI x36), some (zI x56), none]) rfl rfl (zpcV rfl rfl)) ?_
    refine zA_aldn rfl rfl rfl ?_
    rcases zb_e H with ⟨x58, h57, C, H⟩ | ⟨E, h57, C, H⟩
    · refine zA_callV (as := [zrv x2]) (st' := []) rfl rfl rfl (zrcv_Q e53 c54) rfl (zmE137 _) rfl (zmS137 C) ?_
      refine zA_ld rfl rfl rfl ?_
      rcases zite_e H with ⟨c59, H⟩ | ⟨c59, H⟩
      · refine zA_brT (c := x58 = x36) rfl rfl rfl c59 ?_
        refine zA_ld rfl rfl rfl ?_
        rcases zite_e H with ⟨c60, H⟩ | ⟨c60, H⟩
        · refine zA_brF' (c := x36 = 0) rfl rfl rfl c60 ?_
          refine zA_aldn rfl rfl rfl ?_
          refine zA_push rfl rfl zkk7 ?_
          obtain ⟨p61, i62, j63, e64, c65, c66, e67, H⟩ := zar_e H
          refine zA_lal rfl rfl e64 c65 c66 e67 ?_
          refine zA_ld rfl rfl rfl ?_
          refine zA_st (st' := [zJ (x56.toInt64), zJ (zl h57 p61 i62 j63)]) rfl rfl rfl rfl ?_
          refine zA_st (st' := [zI (lg_cmp (zl h57 p61 i62 j63) (x56.toInt64))]) rfl rfl rfl rfl ?_
          rcases zite_e H with ⟨c68, H⟩ | ⟨c68, H⟩
          · refine zA_brT (c := (lg_cmp (zl h57 p61 i62 j63) (x56.toInt64)) = 0) rfl rfl rfl c68 ?_
            refine zA_tr (L := [some (zrv x0), some (zrv x1), some (zrv x2), some (zrv x3), some (zrv x4), some (zI x5), none, none, none]) rfl rfl ?_
            refine zA_go rfl rfl ?_
            exact zA_tr (L := [some (zrv x0), some (zrv x1), some (zrv x2), some (zrv x3), some (zrv x4), some (zI x5), none, none, none]) rfl rfl (zmS291_2349 hk16 _ _ _ _ _ _ _ _ _ H)
          · refine zA_brF (c := (lg_cmp (zl h57 p61 i62 j63) (x56.toInt64)) = 0) rfl rfl rfl c68 ?_
            refine zA_push rfl rfl zkk7 ?_
            cases H
            exact zA_ret rfl (zret_Z (by decide))
        · refine zA_brT' (c := x36 = 0) rfl rfl rfl c60 ?_
          refine zA_tr (L := [some (zrv x0), some (zrv x1), some (zrv x2), some (zrv x3), some (zrv x4), some (zI x5), none, none, none]) rfl rfl ?_
          refine zA_go rfl rfl ?_
          exact zA_tr (L := [some (zrv x0), some (zrv x1), some (zrv x2), some (zrv x3), some (zrv x4), some (zI x5), none, none, none]) rfl rfl (zmS291_2349 hk16 _ _ _ _ _ _ _ _ _ H)
      · refine zA_brF (c := x58 = x36) rfl rfl rfl c59 ?_
        refine zA_push rfl rfl zkk7 ?_
        cases H
        exact zA_ret rfl (zret_Z (by decide))
    · cases H
      exact zA_callX (as := [zrv x2]) (st' := []) rfl rfl (zrcv_Q e53 c54) rfl (zmE137 _) rfl rfl rfl (zmS137 C)
  · cases H
    exact zA_callX (as := [zrv x2, zI (zi h35 p37 i38 j39), zI (zi h35 p44 i45 j46)]) (st' := []) rfl rfl (zrcv_Q e53 c54) rfl (zmE194 _ _ _) rfl rfl rfl (zmS194 C)
def zm291_753 (k16 : zq → zq → zq → zq → zq → Int32 → zH → zRs Int32) (x0 : zq) (x1 : zq) (x2 : zq) (x3 : zq) (x4 : zq) (x5 : Int32) (h : zH) : zRs Int32 :=
  zai x0 (x5 + (1 : Int32)) h fun p21 i22 j23 =>
  zai x0 (x5 + (2 : Int32)) h fun p28 i29 j30 =>
  zb2 (zm257 x1 (zi h p21 i22 j23) (zi h p28 i29 j30) x3 h) fun x36 h35 =>
  zai x0 (x5 + (1 : Int32)) h35 fun p37 i38 j39 =>
  zai x0 (x5 + (2 : Int32)) h35 fun p44 i45 j46 =>
  zob 12 x2 fun p51 i52 =>
  zb (zm193 x2 (zi h35 p37 i38 j39) (zi h35 p44 i45 j46) h35) fun x56 h55 =>
  zb (zm137 x2 h55) fun x58 h57 =>
  if x58 = x36 then
    if x36 = 0 then
      zar 3 x3 (0 : Int32) h57 fun p61 i62 j63 =>
      if (lg_cmp (zl h57 p61 i62 j63) (x56.toInt64)) = 0 then
        zm291_2349 k16 x0 x1 x2 x3 x4 x5 h57
      else
        some (.inl (0 : Int32), h57)
    else
      zm291_2349 k16 x0 x1 x2 x3 x4 x5 h57
  else
    some (.inl (0 : Int32), h57)
theorem zmS291_753 {k16 : zq → zq → zq → zq → zq → Int32 → zH → zRs Int32} (hk16 : ∀ (x0 : zq) (x1 : zq) (x2 : zq) (x3 : zq) (x4 : zq) (x5 : Int32) (h : zH) (r : Int32 ⊕ Nat) (h' : zH), k16 x0 x1 x2 x3 x4 x5 h = some (r, h') → zAt 291 16 [some (zrv x0), some (zrv x1), some (zrv x2), some (zrv x3), some (zrv x4), some (zI x5), none, none, none] [] h (zoI r) h') : ∀ (x0 : zq) (x1 : zq) (x2 : zq) (x3 : zq) (x4 : zq) (x5 : Int32) (h : zH) (r : Int32 ⊕ Nat) (h' : zH), zm291_753 k16 x0 x1 x2 x3 x4 x5 h = some (r, h') → zAt 291 753 [some (zrv x0), some (zrv x1), some (zrv x2), some (zrv x3), some (zrv x4), some (zI x5), none, none, none] [] h (zoI r) h' := by
  intro x0 x1 x2 x3 x4 x5 h r h' H
  unfold zm291_753 at H
  refine zA_aldn rfl rfl rfl ?_
  refine zA_aldn rfl rfl rfl ?_
  refine zA_ld rfl rfl rfl ?_
  refine zA_push rfl rfl zkk5 ?_
  refine zA_st (st' := [zI (x5 + (1 : Int32)), zrv x0, zrv x1]) rfl rfl rfl rfl ?_
  obtain ⟨p21, i22, j23, e24, c25, c26, e27, H⟩ := zai_e H
  refine zA_ial rfl rfl e24 c25 c26 e27 ?_
  refine zA_aldn rfl rfl rfl ?_
  refine zA_ld rfl rfl rfl ?_
  refine zA_push rfl rfl zkk23 ?_
  refine zA_st (st' := [zI (x5 + (2 : Int32)), zrv x0, zI (zi h p21 i22 j23), zrv x1]) rfl rfl rfl rfl ?_
  obtain ⟨p28, i29, j30, e31, c32, c33, e34, H⟩ := zai_e H
  refine zA_ial rfl rfl e31 c32 c33 e34 ?_
  refine zA_aldn rfl rfl rfl ?_
  obtain ⟨x36, h35, C, H⟩ := zb2_e H
  refine zA_callV (as := [zrv x1, zI (zi h p21 i22 j23), zI (zi h p28 i29 j30), zrv x3]) (st' := []) rfl rfl rfl rfl rfl (zmE257 _ _ _ _) rfl (zmS257 C) ?_
  refine zA_ist2 rfl rfl rfl (zset1 (L' := [some (zrv x0), some (zrv x1), some (zrv x2), some (zrv x3), some (zrv x4), some (zI x5), some (zI x36), none, none]) rfl rfl (zpcV rfl rfl)) ?_
  refine zA_aldn rfl rfl rfl ?_
  refine zA_aldn rfl rfl rfl ?_
  refine zA_ld rfl rfl rfl ?_
  refine zA_push rfl rfl zkk5 ?_
  refine zA_st (st' := [zI (x5 + (1 : Int32)), zrv x0, zrv x2]) rfl rfl rfl rfl ?_
  obtain ⟨p37, i38, j39, e40, c41, c42, e43, H⟩ := zai_e H
  refine zA_ial rfl rfl e40 c41 c42 e43 ?_
  refine zA_aldn rfl rfl rfl ?_
  refine zA_ld rfl rfl rfl ?_
  refine zA_push rfl rfl zkk23 ?_
  refine zA_st (st' := [zI (x5 + (2 : Int32)), zrv x0, zI (zi h35 p37 i38 j39), zrv x2]) rfl rfl rfl rfl ?_
  obtain ⟨p44, i45, j46, e47, c48, c49, e50, H⟩ := zai_e H
  refine zA_ial rfl rfl e47 c48 c49 e50 ?_
  obtain ⟨p51, i52, e53, c54, H⟩ := zob_e H
  rcases zb_e H with ⟨x56, h55, C, H⟩ | ⟨E, h55, C, H⟩
  · refine zA_callV (as := [zrv x2, zI (zi h35 p37 i38 j39), zI (zi h35 p44 i45 j46)]) (st' := []) rfl rfl rfl (zrcv_Q e53 c54) rfl (zmE193 _ _ _) rfl (zmS193 C) ?_
    refine zA_ist2 rfl rfl rfl (zset1 (L' := [some (zrv x0), some (zrv x1), some (zrv x2), some (zrv x3), some (zrv x4), some (zI x5), some (zI x36), some (zI x56), none]) rfl rfl (zpcV rfl rfl)) ?_
    refine zA_aldn rfl rfl rfl ?_
    rcases zb_e H with ⟨x58, h57, C, H⟩ | ⟨E, h57, C, H⟩
    · refine zA_callV (as := [zrv x2]) (st' := []) rfl rfl rfl (zrcv_Q e53 c54) rfl (zmE137 _) rfl (zmS137 C) ?_
      refine zA_ld rfl rfl rfl ?_
      rcases zite_e H with ⟨c59, H⟩ | ⟨c59, H⟩
      · refine zA_brT (c := x58 = x36) rfl rfl rfl c59 ?_
        refine zA_ld rfl rfl rfl ?_
        rcases zite_e H with ⟨c60, H⟩ | ⟨c60, H⟩
        · refine zA_brF' (c := x36 = 0) rfl rfl rfl c60 ?_
          refine zA_aldn rfl rfl rfl ?_
          refine zA_push rfl rfl zkk7 ?_
          obtain ⟨p61, i62, j63, e64, c65, c66, e67, H⟩ := zar_e H
          refine zA_lal rfl rfl e64 c65 c66 e67 ?_
          refine zA_ld rfl rfl rfl ?_
          refine zA_st (st' := [zJ (x56.toInt64), zJ (zl h57 p61 i62 j63)]) rfl rfl rfl rfl ?_
          refine zA_st (st' := [zI (lg_cmp (zl h57 p61 i62 j63) (x56.toInt64))]) rfl rfl rfl rfl ?_
          rcases zite_e H with ⟨c68, H⟩ | ⟨c68, H⟩
          · refine zA_brT (c := (lg_cmp (zl h57 p61 i62 j63) (x56.toInt64)) = 0) rfl rfl rfl c68 ?_
            refine zA_tr (L := [some (zrv x0), some (zrv x1), some (zrv x2), some (zrv x3), some (zrv x4), some (zI x5), none, none, none]) rfl rfl ?_
            refine zA_go rfl rfl ?_
            exact zA_tr (L := [some (zrv x0), some (zrv x1), some (zrv x2), some (zrv x3), some (zrv x4), some (zI x5), none, none, none]) rfl rfl (zmS291_2349 hk16 _ _ _ _ _ _ _ _ _ H)
          · refine zA_brF (c := (lg_cmp (zl h57 p61 i62 j63) (x56.toInt64)) = 0) rfl rfl rfl c68 ?_
            refine zA_push rfl rfl zkk7 ?_
            cases H
            exact zA_ret rfl (zret_Z (by decide))
        · refine zA_brT' (c := x36 = 0) rfl rfl rfl c60 ?_
          refine zA_tr (L := [some (zrv x0), some (zrv x1), some (zrv x2), some (zrv x3), some (zrv x4), some (zI x5), none, none, none]) rfl rfl ?_
          refine zA_go rfl rfl ?_
          exact zA_tr (L := [some (zrv x0), some (zrv x1), some (zrv x2), some (zrv x3), some (zrv x4), some (zI x5), none, none, none]) rfl rfl (zmS291_2349 hk16 _ _ _ _ _ _ _ _ _ H)
      · refine zA_brF (c := x58 = x36) rfl rfl rfl c59 ?_
        refine zA_push rfl rfl zkk7 ?_
        cases H
        exact zA_ret rfl (zret_Z (by decide))
    · cases H
      exact zA_callX (as := [zrv x2]) (st' := []) rfl rfl (zrcv_Q e53 c54) rfl (zmE137 _) rfl rfl rfl (zmS137 C)
  · cases H
    exact zA_callX (as := [zrv x2, zI (zi h35 p37 i38 j39), zI (zi h35 p44 i45 j46)]) (st' := []) rfl rfl (zrcv_Q e53 c54) rfl (zmE193 _ _ _) rfl rfl rfl (zmS193 C)
def zm291_708 (k16 : zq → zq → zq → zq → zq → Int32 → zH → zRs Int32) (x0 : zq) (x1 : zq) (x2 : zq) (x3 : zq) (x4 : zq) (x5 : Int32) (h : zH) : zRs Int32 :=
  zai x0 (x5 + (1 : Int32)) h fun p21 i22 j23 =>
  zai x0 (x5 + (2 : Int32)) h fun p28 i29 j30 =>
  zb2 (zm256 x1 (zi h p21 i22 j23) (zi h p28 i29 j30) x3 h) fun x36 h35 =>
  zai x0 (x5 + (1 : Int32)) h35 fun p37 i38 j39 =>
  zai x0 (x5 + (2 : Int32)) h35 fun p44 i45 j46 =>
  zob 12 x2 fun p51 i52 =>
  zb (zm192 x2 (zi h35 p37 i38 j39) (zi h35 p44 i45 j46) h35) fun x56 h55 =>
  zb (zm137 x2 h55) fun x58 h57 =>
  if x58 = x36 then
    if x36 = 0 then
      zar 3 x3 (0 : Int32) h57 fun p61 i62 j63 =>
      if (lg_cmp (zl h57 p61 i62 j63) (x56.toInt64)) = 0 then
        zm291_2349 k16 x0 x1 x2 x3 x4 x5 h57
      else
        some (.inl (0 : Int32), h57)
    else
      zm291_2349 k16 x0 x1 x2 x3 x4 x5 h57
  else
    some (.inl (0 : Int32), h57)
theorem zmS291_708 {k16 : zq → zq → zq → zq → zq → Int32 → zH → zRs Int32} (hk16 : ∀ (x0 : zq) (x1 : zq) (x2 : zq) (x3 : zq) (x4 : zq) (x5 : Int32) (h : zH) (r : Int32 ⊕ Nat) (h' : zH), k16 x0 x1 x2 x3 x4 x5 h = some (r, h') → zAt 291 16 [some (zrv x0), some (zrv x1), some (zrv x2), some (zrv x3), some (zrv x4), some (zI x5), none, none, none] [] h (zoI r) h') : ∀ (x0 : zq) (x1 : zq) (x2 : zq) (x3 : zq) (x4 : zq) (x5 : Int32) (h : zH) (r : Int32 ⊕ Nat) (h' : zH), zm291_708 k16 x0 x1 x2 x3 x4 x5 h = some (r, h') → zAt 291 708 [some (zrv x0), some (zrv x1), some (zrv x2), some (zrv x3), some (zrv x4), some (zI x5), none, none, none] [] h (zoI r) h' := by
  intro x0 x1 x2 x3 x4 x5 h r h' H
  unfold zm291_708 at H
  refine zA_aldn rfl rfl rfl ?_
  refine zA_aldn rfl rfl rfl ?_
  refine zA_ld rfl rfl rfl ?_
  refine zA_push rfl rfl zkk5 ?_
  refine zA_st (st' := [zI (x5 + (1 : Int32)), zrv x0, zrv x1]) rfl rfl rfl rfl ?_
  obtain ⟨p21, i22, j23, e24, c25, c26, e27, H⟩ := zai_e H
  refine zA_ial rfl rfl e24 c25 c26 e27 ?_
  refine zA_aldn rfl rfl rfl ?_
  refine zA_ld rfl rfl rfl ?_
  refine zA_push rfl rfl zkk23 ?_
  refine zA_st (st' := [zI (x5 + (2 : Int32)), zrv x0, zI (zi h p21 i22 j23), zrv x1]) rfl rfl rfl rfl ?_
  obtain ⟨p28, i29, j30, e31, c32, c33, e34, H⟩ := zai_e H
  refine zA_ial rfl rfl e31 c32 c33 e34 ?_
  refine zA_aldn rfl rfl rfl ?_
  obtain ⟨x36, h35, C, H⟩ := zb2_e H
  refine zA_callV (as := [zrv x1, zI (zi h p21 i22 j23), zI (zi h p28 i29 j30), zrv x3]) (st' := []) rfl rfl rfl rfl rfl (zmE256 _ _ _ _) rfl (zmS256 C) ?_
  refine zA_ist2 rfl rfl rfl (zset1 (L' := [some (zrv x0), some (zrv x1), some (zrv x2), some (zrv x3), some (zrv x4), some (zI x5), some (zI x36), none, none]) rfl rfl (zpcV rfl rfl)) ?_
  refine zA_aldn rfl rfl rfl ?_
  refine zA_aldn rfl rfl rfl ?_
  refine zA_ld rfl rfl rfl ?_
  refine zA_push rfl rfl zkk5 ?_
  refine zA_st (st' := [zI (x5 + (1 : Int32)), zrv x0, zrv x2]) rfl rfl rfl rfl ?_
  obtain ⟨p37, i38, j39, e40, c41, c42, e43, H⟩ := zai_e H
  refine zA_ial rfl rfl e40 c41 c42 e43 ?_
  refine zA_aldn rfl rfl rfl ?_
  refine zA_ld rfl rfl rfl ?_
  refine zA_push rfl rfl zkk23 ?_
  refine zA_st (st' := [zI (x5 + (2 : Int32)), zrv x0, zI (zi h35 p37 i38 j39), zrv x2]) rfl rfl rfl rfl ?_
  obtain ⟨p44, i45, j46, e47, c48, c49, e50, H⟩ := zai_e H
  refine zA_ial rfl rfl e47 c48 c49 e50 ?_
  obtain ⟨p51, i52, e53, c54, H⟩ := zob_e H
  rcases zb_e H with ⟨x56, h55, C, H⟩ | ⟨E, h55, C, H⟩
  · refine zA_callV (as := [zrv x2, zI (zi h35 p37 i38 j39), zI (zi h35 p44 i45 j46)]) (st' := []) rfl rfl rfl (zrcv_Q e53 c54) rfl (zmE192 _ _ _) rfl (zmS192 C) ?_
    refine zA_ist2 rfl rfl rfl (zset1 (L' := [some (zrv x0), some (zrv x1), some (zrv x2), some (zrv x3), some (zrv x4), some (zI x5), some (zI x36), some (zI x56), none]) rfl rfl (zpcV rfl rfl)) ?_
    refine zA_aldn rfl rfl rfl ?_
    rcases zb_e H with ⟨x58, h57, C, H⟩ | ⟨E, h57, C, H⟩
    · refine zA_callV (as := [zrv x2]) (st' := []) rfl rfl rfl (zrcv_Q e53 c54) rfl (zmE137 _) rfl (zmS137 C) ?_
      refine zA_ld rfl rfl rfl ?_
      rcases zite_e H with ⟨c59, H⟩ | ⟨c59, H⟩
      · refine zA_brT (c := x58 = x36) rfl rfl rfl c59 ?_
        refine zA_ld rfl rfl rfl ?_
        rcases zite_e H with ⟨c60, H⟩ | ⟨c60, H⟩
        · refine zA_brF' (c := x36 = 0) rfl rfl rfl c60 ?_
          refine zA_aldn rfl rfl rfl ?_
          refine zA_push rfl rfl zkk7 ?_
          obtain ⟨p61, i62, j63, e64, c65, c66, e67, H⟩ := zar_e H
          refine zA_lal rfl rfl e64 c65 c66 e67 ?_
          refine zA_ld rfl rfl rfl ?_
          refine zA_st (st' := [zJ (x56.toInt64), zJ (zl h57 p61 i62 j63)]) rfl rfl rfl rfl ?_
          refine zA_st (st' := [zI (lg_cmp (zl h57 p61 i62 j63) (x56.toInt64))]) rfl rfl rfl rfl ?_
          rcases zite_e H with ⟨c68, H⟩ | ⟨c68, H⟩
          · refine zA_brT (c := (lg_cmp (zl h57 p61 i62 j63) (x56.toInt64)) = 0) rfl rfl rfl c68 ?_
            refine zA_tr (L := [some (zrv x0), some (zrv x1), some (zrv x2), some (zrv x3), some (zrv x4), some (zI x5), none, none, none]) rfl rfl ?_
            refine zA_go rfl rfl ?_
            exact zA_tr (L := [some (zrv x0), some (zrv x1), some (zrv x2), some (zrv x3), some (zrv x4), some (zI x5), none, none, none]) rfl rfl (zmS291_2349 hk16 _ _ _ _ _ _ _ _ _ H)
          · refine zA_brF (c := (lg_cmp (zl h57 p61 i62 j63) (x56.toInt64)) = 0) rfl rfl rfl c68 ?_
            refine zA_push rfl rfl zkk7 ?_
            cases H
            exact zA_ret rfl (zret_Z (by decide))
        · refine zA_brT' (c := x36 = 0) rfl rfl rfl c60 ?_
          refine zA_tr (L := [some (zrv x0), some (zrv x1), some (zrv x2), some (zrv x3), some (zrv x4), some (zI x5), none, none, none]) rfl rfl ?_
          refine zA_go rfl rfl ?_
          exact zA_tr (L := [some (zrv x0), some (zrv x1), some (zrv x2), some (zrv x3), some (zrv x4), some (zI x5), none, none, none]) rfl rfl (zmS291_2349 hk16 _ _ _ _ _ _ _ _ _ H)
      · refine zA_brF (c := x58 = x36) rfl rfl rfl c59 ?_
        refine zA_push rfl rfl zkk7 ?_
        cases H
        exact zA_ret rfl (zret_Z (by decide))
    · cases H
      exact zA_callX (as := [zrv x2]) (st' := []) rfl rfl (zrcv_Q e53 c54) rfl (zmE137 _) rfl rfl rfl (zmS137 C)
  · cases H
    exact zA_callX (as := [zrv x2, zI (zi h35 p37 i38 j39), zI (zi h35 p44 i45 j46)]) (st' := []) rfl rfl (zrcv_Q e53 c54) rfl (zmE192 _ _ _) rfl rfl rfl (zmS192 C)
def zm291_701 (k16 : zq → zq → zq → zq → zq → Int32 → zH → zRs Int32) (x0 : zq) (x1 : zq) (x2 : zq) (x3 : zq) (x4 : zq) (x5 : Int32) (h : zH) : zRs Int32 :=
  zob 11 x1 fun p21 i22 =>
  zb (zm84 x1 h) fun x26 h25 =>
  zob 12 x2 fun p27 i28 =>
  zb (zm190 x2 h25) fun x32 h31 =>
  if x26 = x32 then
    zm291_2349 k16 x0 x1 x2 x3 x4 x5 h31
  else
    some (.inl (0 : Int32), h31)
theorem zmS291_701 {k16 : zq → zq → zq → zq → zq → Int32 → zH → zRs Int32} (hk16 : ∀ (x0 : zq) (x1 : zq) (x2 : zq) (x3 : zq) (x4 : zq) (x5 : Int32) (h : zH) (r : Int32 ⊕ Nat) (h' : zH), k16 x0 x1 x2 x3 x4 x5 h = some (r, h') → zAt 291 16 [some (zrv x0), some (zrv x1), some (zrv x2), some (zrv x3), some (zrv x4), some (zI x5), none, none, none] [] h (zoI r) h') : ∀ (x0 : zq) (x1 : zq) (x2 : zq) (x3 : zq) (x4 : zq) (x5 : Int32) (h : zH) (r : Int32 ⊕ Nat) (h' : zH), zm291_701 k16 x0 x1 x2 x3 x4 x5 h = some (r, h') → zAt 291 701 [some (zrv x0), some (zrv x1), some (zrv x2), some (zrv x3), some (zrv x4), some (zI x5), none, none, none] [] h (zoI r) h' := by
  intro x0 x1 x2 x3 x4 x5 h r h' H
  unfold zm291_701 at H
  refine zA_aldn rfl rfl rfl ?_
  obtain ⟨p21, i22, e23, c24, H⟩ := zob_e H
  rcases zb_e H with ⟨x26, h25, C, H⟩ | ⟨E, h25, C, H⟩
  · refine zA_callV (as := [zrv x1]) (st' := []) rfl rfl rfl (zrcv_Q e23 c24) rfl (zmE84 _) rfl (zmS84 C) ?_
    refine zA_aldn rfl rfl rfl ?_
    obtain ⟨p27, i28, e29, c30, H⟩ := zob_e H
    rcases zb_e H with ⟨x32, h31, C, H⟩ | ⟨E, h31, C, H⟩
    · refine zA_callV (as := [zrv x2]) (st' := [zI x26]) rfl rfl rfl (zrcv_Q e29 c30) rfl (zmE190 _) rfl (zmS190 C) ?_
      rcases zite_e H with ⟨c33, H⟩ | ⟨c33, H⟩
      · refine zA_brT (c := x26 = x32) rfl rfl rfl c33 ?_
        exact zA_tr (L := [some (zrv x0), some (zrv x1), some (zrv x2), some (zrv x3), some (zrv x4), some (zI x5), none, none, none]) rfl rfl (zmS291_2349 hk16 _ _ _ _ _ _ _ _ _ H)
      · refine zA_brF (c := x26 = x32) rfl rfl rfl c33 ?_
        refine zA_push rfl rfl zkk7 ?_
        cases H
        exact zA_ret rfl (zret_Z (by decide))
    · cases H
      exact zA_callX (as := [zrv x2]) (st' := [zI x26]) rfl rfl (zrcv_Q e29 c30) rfl (zmE190 _) rfl rfl rfl (zmS190 C)
  · cases H
    exact zA_callX (as := [zrv x1]) (st' := []) rfl rfl (zrcv_Q e23 c24) rfl (zmE84 _) rfl rfl rfl (zmS84 C)
def zm291_694 (k16 : zq → zq → zq → zq → zq → Int32 → zH → zRs Int32) (x0 : zq) (x1 : zq) (x2 : zq) (x3 : zq) (x4 : zq) (x5 : Int32) (h : zH) : zRs Int32 :=
  zob 11 x1 fun p21 i22 =>
  zb (zm83 x1 h) fun x26 h25 =>
  zob 12 x2 fun p27 i28 =>
  zb (zm189 x2 h25) fun x32 h31 =>
  if x26 = x32 then
    zm291_2349 k16 x0 x1 x2 x3 x4 x5 h31
  else
    some (.inl (0 : Int32), h31)
theorem zmS291_694 {k16 : zq → zq → zq → zq → zq → Int32 → zH → zRs Int32} (hk16 : ∀ (x0 : zq) (x1 : zq) (x2 : zq) (x3 : zq) (x4 : zq) (x5 : Int32) (h : zH) (r : Int32 ⊕ Nat) (h' : zH), k16 x0 x1 x2 x3 x4 x5 h = some (r, h') → zAt 291 16 [some (zrv x0), some (zrv x1), some (zrv x2), some (zrv x3), some (zrv x4), some (zI x5), none, none, none] [] h (zoI r) h') : ∀ (x0 : zq) (x1 : zq) (x2 : zq) (x3 : zq) (x4 : zq) (x5 : Int32) (h : zH) (r : Int32 ⊕ Nat) (h' : zH), zm291_694 k16 x0 x1 x2 x3 x4 x5 h = some (r, h') → zAt 291 694 [some (zrv x0), some (zrv x1), some (zrv x2), some (zrv x3), some (zrv x4), some (zI x5), none, none, none] [] h (zoI r) h' := by
  intro x0 x1 x2 x3 x4 x5 h r h' H
  unfold zm291_694 at H
  refine zA_aldn rfl rfl rfl ?_
  obtain ⟨p21, i22, e23, c24, H⟩ := zob_e H
  rcases zb_e H with ⟨x26, h25, C, H⟩ | ⟨E, h25, C, H⟩
  · refine zA_callV (as := [zrv x1]) (st' := []) rfl rfl rfl (zrcv_Q e23 c24) rfl (zmE83 _) rfl (zmS83 C) ?_
    refine zA_aldn rfl rfl rfl ?_
    obtain ⟨p27, i28, e29, c30, H⟩ := zob_e H
    rcases zb_e H with ⟨x32, h31, C, H⟩ | ⟨E, h31, C, H⟩
    · refine zA_callV (as := [zrv x2]) (st' := [zI x26]) rfl rfl rfl (zrcv_Q e29 c30) rfl (zmE189 _) rfl (zmS189 C) ?_
      rcases zite_e H with ⟨c33, H⟩ | ⟨c33, H⟩
      · refine zA_brT (c := x26 = x32) rfl rfl rfl c33 ?_
        exact zA_tr (L := [some (zrv x0), some (zrv x1), some (zrv x2), some (zrv x3), some (zrv x4), some (zI x5), none, none, none]) rfl rfl (zmS291_2349 hk16 _ _ _ _ _ _ _ _ _ H)
      · refine zA_brF (c := x26 = x32) rfl rfl rfl c33 ?_
        refine zA_push rfl rfl zkk7 ?_
        cases H
        exact zA_ret rfl (zret_Z (by decide))
    · cases H
      exact zA_callX (as := [zrv x2]) (st' := [zI x26]) rfl rfl (zrcv_Q e29 c30) rfl (zmE189 _) rfl rfl rfl (zmS189 C)
  · cases H
    exact zA_callX (as := [zrv x1]) (st' := []) rfl rfl (zrcv_Q e23 c24) rfl (zmE83 _) rfl rfl rfl (zmS83 C)
def zm291_669 (k16 : zq → zq → zq → zq → zq → Int32 → zH → zRs Int32) (x0 : zq) (x1 : zq) (x2 : zq) (x3 : zq) (x4 : zq) (x5 : Int32) (h : zH) : zRs Int32 :=
  zb2 (zm255 x1 x3 h) fun x22 h21 =>
  zob 12 x2 fun p23 i24 =>
  zb (zm188 x2 h21) fun x28 h27 =>
  zb (zm137 x2 h27) fun x30 h29 =>
  if x30 = x22 then
    if x22 = 0 then
      zar 3 x3 (0 : Int32) h29 fun p33 i34 j35 =>
      if (lg_cmp (zl h29 p33 i34 j35) (x28.toInt64)) = 0 then
        zm291_2349 k16 x0 x1 x2 x3 x4 x5 h29
      else
        some (.inl (0 : Int32), h29)
    else
      zm291_2349 k16 x0 x1 x2 x3 x4 x5 h29
  else
    some (.inl (0 : Int32), h29)
theorem zmS291_669 {k16 : zq → zq → zq → zq → zq → Int32 → zH → zRs Int32} (hk16 : ∀ (x0 : zq) (x1 : zq) (x2 : zq) (x3 : zq) (x4 : zq) (x5 : Int32) (h : zH) (r : Int32 ⊕ Nat) (h' : zH), k16 x0 x1 x2 x3 x4 x5 h = some (r, h') → zAt 291 16 [some (zrv x0), some (zrv x1), some (zrv x2), some (zrv x3), some (zrv x4), some (zI x5), none, none, none] [] h (zoI r) h') : ∀ (x0 : zq) (x1 : zq) (x2 : zq) (x3 : zq) (x4 : zq) (x5 : Int32) (h : zH) (r : Int32 ⊕ Nat) (h' : zH), zm291_669 k16 x0 x1 x2 x3 x4 x5 h = some (r, h') → zAt 291 669 [some (zrv x0), some (zrv x1), some (zrv x2), some (zrv x3), some (zrv x4), some (zI x5), none, none, none] [] h (zoI r) h' := by
  intro x0 x1 x2 x3 x4 x5 h r h' H
  unfold zm291_669 at H
  refine zA_aldn rfl rfl rfl ?_
  refine zA_aldn rfl rfl rfl ?_
  obtain ⟨x22, h21, C, H⟩ := zb2_e H
  refine zA_callV (as := [zrv x1, zrv x3]) (st' := []) rfl rfl rfl rfl rfl (zmE255 _ _) rfl (zmS255 C) ?_
  refine zA_ist2 rfl rfl rfl (zset1 (L' := [some (zrv x0), some (zrv x1), some (zrv x2), some (zrv x3), some (zrv x4), some (zI x5), some (zI x22), none, none]) rfl rfl (zpcV rfl rfl)) ?_
  refine zA_aldn rfl rfl rfl ?_
  obtain ⟨p23, i24, e25, c26, H⟩ := zob_e H
  rcases zb_e H with ⟨x28, h27, C, H⟩ | ⟨E, h27, C, H⟩
  · refine zA_callV (as := [zrv x2]) (st' := []) rfl rfl rfl (zrcv_Q e25 c26) rfl (zmE188 _) rfl (zmS188 C) ?_
    refine zA_ist2 rfl rfl rfl (zset1 (L' := [some (zrv x0), some (zrv x1), some (zrv x2), some (zrv x3), some (zrv x4), some (zI x5), some (zI x22), some (zI x28), none]) rfl rfl (zpcV rfl rfl)) ?_
    refine zA_aldn rfl rfl rfl ?_
    rcases zb_e H with ⟨x30, h29, C, H⟩ | ⟨E, h29, C, H⟩
    · refine zA_callV (as := [zrv x2]) (st' := []) rfl rfl rfl (zrcv_Q e25 c26) rfl (zmE137 _) rfl (zmS137 C) ?_
      refine zA_ld rfl rfl rfl ?_
      rcases zite_e H with ⟨c31, H⟩ | ⟨c31, H⟩
      · refine zA_brT (c := x30 = x22) rfl rfl rfl c31 ?_
        refine zA_ld rfl rfl rfl ?_
        rcases zite_e H with ⟨c32, H⟩ | ⟨c32, H⟩
        · refine zA_brF' (c := x22 = 0) rfl rfl rfl c32 ?_
          refine zA_aldn rfl rfl rfl ?_
          refine zA_push rfl rfl zkk7 ?_
          obtain ⟨p33, i34, j35, e36, c37, c38, e39, H⟩ := zar_e H
          refine zA_lal rfl rfl e36 c37 c38 e39 ?_
          refine zA_ld rfl rfl rfl ?_
          refine zA_st (st' := [zJ (x28.toInt64), zJ (zl h29 p33 i34 j35)]) rfl rfl rfl rfl ?_
          refine zA_st (st' := [zI (lg_cmp (zl h29 p33 i34 j35) (x28.toInt64))]) rfl rfl rfl rfl ?_
          rcases zite_e H with ⟨c40, H⟩ | ⟨c40, H⟩
          · refine zA_brT (c := (lg_cmp (zl h29 p33 i34 j35) (x28.toInt64)) = 0) rfl rfl rfl c40 ?_
            refine zA_tr (L := [some (zrv x0), some (zrv x1), some (zrv x2), some (zrv x3), some (zrv x4), some (zI x5), none, none, none]) rfl rfl ?_
            refine zA_go rfl rfl ?_
            exact zA_tr (L := [some (zrv x0), some (zrv x1), some (zrv x2), some (zrv x3), some (zrv x4), some (zI x5), none, none, none]) rfl rfl (zmS291_2349 hk16 _ _ _ _ _ _ _ _ _ H)
          · refine zA_brF (c := (lg_cmp (zl h29 p33 i34 j35) (x28.toInt64)) = 0) rfl rfl rfl c40 ?_
            refine zA_push rfl rfl zkk7 ?_
            cases H
            exact zA_ret rfl (zret_Z (by decide))
        · refine zA_brT' (c := x22 = 0) rfl rfl rfl c32 ?_
          refine zA_tr (L := [some (zrv x0), some (zrv x1), some (zrv x2), some (zrv x3), some (zrv x4), some (zI x5), none, none, none]) rfl rfl ?_
          refine zA_go rfl rfl ?_
          exact zA_tr (L := [some (zrv x0), some (zrv x1), some (zrv x2), some (zrv x3), some (zrv x4), some (zI x5), none, none, none]) rfl rfl (zmS291_2349 hk16 _ _ _ _ _ _ _ _ _ H)
      · refine zA_brF (c := x30 = x22) rfl rfl rfl c31 ?_
        refine zA_push rfl rfl zkk7 ?_
        cases H
        exact zA_ret rfl (zret_Z (by decide))
    · cases H
      exact zA_callX (as := [zrv x2]) (st' := []) rfl rfl (zrcv_Q e25 c26) rfl (zmE137 _) rfl rfl rfl (zmS137 C)
  · cases H
    exact zA_callX (as := [zrv x2]) (st' := []) rfl rfl (zrcv_Q e25 c26) rfl (zmE188 _) rfl rfl rfl (zmS188 C)
def zm291_661 (k16 : zq → zq → zq → zq → zq → Int32 → zH → zRs Int32) (x0 : zq) (x1 : zq) (x2 : zq) (x3 : zq) (x4 : zq) (x5 : Int32) (x6 : Int32) (s0 : zq) (s1 : Int32) (h : zH) : zRs Int32 :=
  zob 12 s0 fun p21 i22 =>
  zb (zm187 s0 s1 h) fun _ h25 =>
  zob 12 x2 fun p26 i27 =>
  zb (zm137 x2 h25) fun x31 h30 =>
  if x31 = x6 then
    zm291_2349 k16 x0 x1 x2 x3 x4 x5 h30
  else
    some (.inl (0 : Int32), h30)
theorem zmS291_661 {k16 : zq → zq → zq → zq → zq → Int32 → zH → zRs Int32} (hk16 : ∀ (x0 : zq) (x1 : zq) (x2 : zq) (x3 : zq) (x4 : zq) (x5 : Int32) (h : zH) (r : Int32 ⊕ Nat) (h' : zH), k16 x0 x1 x2 x3 x4 x5 h = some (r, h') → zAt 291 16 [some (zrv x0), some (zrv x1), some (zrv x2), some (zrv x3), some (zrv x4), some (zI x5), none, none, none] [] h (zoI r) h') : ∀ (x0 : zq) (x1 : zq) (x2 : zq) (x3 : zq) (x4 : zq) (x5 : Int32) (x6 : Int32) (s0 : zq) (s1 : Int32) (h : zH) (r : Int32 ⊕ Nat) (h' : zH), zm291_661 k16 x0 x1 x2 x3 x4 x5 x6 s0 s1 h = some (r, h') → zAt 291 661 [some (zrv x0), some (zrv x1), some (zrv x2), some (zrv x3), some (zrv x4), some (zI x5), some (zI x6), none, none] [zI s1, zrv s0] h (zoI r) h' := by
  intro x0 x1 x2 x3 x4 x5 x6 s0 s1 h r h' H
  unfold zm291_661 at H
  obtain ⟨p21, i22, e23, c24, H⟩ := zob_e H
  rcases zb_e H with ⟨u33, h25, C, H⟩ | ⟨E, h25, C, H⟩
  · refine zA_callU (as := [zrv s0, zI s1]) (st' := []) rfl rfl rfl (zrcv_Q e23 c24) rfl (zmE187 _ _) rfl (zmS187 C) ?_
    refine zA_aldn rfl rfl rfl ?_
    obtain ⟨p26, i27, e28, c29, H⟩ := zob_e H
    rcases zb_e H with ⟨x31, h30, C, H⟩ | ⟨E, h30, C, H⟩
    · refine zA_callV (as := [zrv x2]) (st' := []) rfl rfl rfl (zrcv_Q e28 c29) rfl (zmE137 _) rfl (zmS137 C) ?_
      refine zA_ld rfl rfl rfl ?_
      rcases zite_e H with ⟨c32, H⟩ | ⟨c32, H⟩
      · refine zA_brT (c := x31 = x6) rfl rfl rfl c32 ?_
        refine zA_tr (L := [some (zrv x0), some (zrv x1), some (zrv x2), some (zrv x3), some (zrv x4), some (zI x5), none, none, none]) rfl rfl ?_
        refine zA_go rfl rfl ?_
        exact zA_tr (L := [some (zrv x0), some (zrv x1), some (zrv x2), some (zrv x3), some (zrv x4), some (zI x5), none, none, none]) rfl rfl (zmS291_2349 hk16 _ _ _ _ _ _ _ _ _ H)
      · refine zA_brF (c := x31 = x6) rfl rfl rfl c32 ?_
        refine zA_push rfl rfl zkk7 ?_
        cases H
        exact zA_ret rfl (zret_Z (by decide))
    · cases H
      exact zA_callX (as := [zrv x2]) (st' := []) rfl rfl (zrcv_Q e28 c29) rfl (zmE137 _) rfl rfl rfl (zmS137 C)
  · cases H
    exact zA_callX (as := [zrv s0, zI s1]) (st' := []) rfl rfl (zrcv_Q e23 c24) rfl (zmE187 _ _) rfl rfl rfl (zmS187 C)
def zm291_649 (k16 : zq → zq → zq → zq → zq → Int32 → zH → zRs Int32) (x0 : zq) (x1 : zq) (x2 : zq) (x3 : zq) (x4 : zq) (x5 : Int32) (s0 : zq) (s1 : Int32) (h : zH) : zRs Int32 :=
  zb2 (zm254 s0 s1 h) fun x22 h21 =>
  zai x0 (x5 + (1 : Int32)) h21 fun p23 i24 j25 =>
  if (zi h21 p23 i24 j25) = 0 then
    zm291_661 k16 x0 x1 x2 x3 x4 x5 x22 x2 (0 : Int32) h21
  else
    zm291_661 k16 x0 x1 x2 x3 x4 x5 x22 x2 (1 : Int32) h21
theorem zmS291_649 {k16 : zq → zq → zq → zq → zq → Int32 → zH → zRs Int32} (hk16 : ∀ (x0 : zq) (x1 : zq) (x2 : zq) (x3 : zq) (x4 : zq) (x5 : Int32) (h : zH) (r : Int32 ⊕ Nat) (h' : zH), k16 x0 x1 x2 x3 x4 x5 h = some (r, h') → zAt 291 16 [some (zrv x0), some (zrv x1), some (zrv x2), some (zrv x3), some (zrv x4), some (zI x5), none, none, none] [] h (zoI r) h') : ∀ (x0 : zq) (x1 : zq) (x2 : zq) (x3 : zq) (x4 : zq) (x5 : Int32) (s0 : zq) (s1 : Int32) (h : zH) (r : Int32 ⊕ Nat) (h' : zH), zm291_649 k16 x0 x1 x2 x3 x4 x5 s0 s1 h = some (r, h') → zAt 291 649 [some (zrv x0), some (zrv x1), some (zrv x2), some (zrv x3), some (zrv x4), some (zI x5), none, none, none] [zI s1, zrv s0] h (zoI r) h' := by
  intro x0 x1 x2 x3 x4 x5 s0 s1 h r h' H
  unfold zm291_649 at H
  obtain ⟨x22, h21, C, H⟩ := zb2_e H
  refine zA_callV (as := [zrv s0, zI s1]) (st' := []) rfl rfl rfl rfl rfl (zmE254 _ _) rfl (zmS254 C) ?_
  refine zA_ist2 rfl rfl rfl (zset1 (L' := [some (zrv x0), some (zrv x1), some (zrv x2), some (zrv x3), some (zrv x4), some (zI x5), some (zI x22), none, none]) rfl rfl (zpcV rfl rfl)) ?_
  refine zA_aldn rfl rfl rfl ?_
  refine zA_aldn rfl rfl rfl ?_
  refine zA_ld rfl rfl rfl ?_
  refine zA_push rfl rfl zkk5 ?_
  refine zA_st (st' := [zI (x5 + (1 : Int32)), zrv x0, zrv x2]) rfl rfl rfl rfl ?_
  obtain ⟨p23, i24, j25, e26, c27, c28, e29, H⟩ := zai_e H
  refine zA_ial rfl rfl e26 c27 c28 e29 ?_
  rcases zite_e H with ⟨c30, H⟩ | ⟨c30, H⟩
  · refine zA_brT (c := (zi h21 p23 i24 j25) = 0) rfl rfl rfl c30 ?_
    refine zA_push rfl rfl zkk7 ?_
    exact zA_tr (L := [some (zrv x0), some (zrv x1), some (zrv x2), some (zrv x3), some (zrv x4), some (zI x5), some (zI x22), none, none]) rfl rfl (zmS291_661 hk16 _ _ _ _ _ _ _ _ _ _ _ _ H)
  · refine zA_brF (c := (zi h21 p23 i24 j25) = 0) rfl rfl rfl c30 ?_
    refine zA_push rfl rfl zkk5 ?_
    refine zA_go rfl rfl ?_
    exact zA_tr (L := [some (zrv x0), some (zrv x1), some (zrv x2), some (zrv x3), some (zrv x4), some (zI x5), some (zI x22), none, none]) rfl rfl (zmS291_661 hk16 _ _ _ _ _ _ _ _ _ _ _ _ H)
def zm291_639 (k16 : zq → zq → zq → zq → zq → Int32 → zH → zRs Int32) (x0 : zq) (x1 : zq) (x2 : zq) (x3 : zq) (x4 : zq) (x5 : Int32) (h : zH) : zRs Int32 :=
  zai x0 (x5 + (1 : Int32)) h fun p21 i22 j23 =>
  if (zi h p21 i22 j23) = 0 then
    zm291_649 k16 x0 x1 x2 x3 x4 x5 x1 (0 : Int32) h
  else
    zm291_649 k16 x0 x1 x2 x3 x4 x5 x1 (1 : Int32) h
theorem zmS291_639 {k16 : zq → zq → zq → zq → zq → Int32 → zH → zRs Int32} (hk16 : ∀ (x0 : zq) (x1 : zq) (x2 : zq) (x3 : zq) (x4 : zq) (x5 : Int32) (h : zH) (r : Int32 ⊕ Nat) (h' : zH), k16 x0 x1 x2 x3 x4 x5 h = some (r, h') → zAt 291 16 [some (zrv x0), some (zrv x1), some (zrv x2), some (zrv x3), some (zrv x4), some (zI x5), none, none, none] [] h (zoI r) h') : ∀ (x0 : zq) (x1 : zq) (x2 : zq) (x3 : zq) (x4 : zq) (x5 : Int32) (h : zH) (r : Int32 ⊕ Nat) (h' : zH), zm291_639 k16 x0 x1 x2 x3 x4 x5 h = some (r, h') → zAt 291 639 [some (zrv x0), some (zrv x1), some (zrv x2), some (zrv x3), some (zrv x4), some (zI x5), none, none, none] [] h (zoI r) h' := by
  intro x0 x1 x2 x3 x4 x5 h r h' H
  unfold zm291_639 at H
  refine zA_aldn rfl rfl rfl ?_
  refine zA_aldn rfl rfl rfl ?_
  refine zA_ld rfl rfl rfl ?_
  refine zA_push rfl rfl zkk5 ?_
  refine zA_st (st' := [zI (x5 + (1 : Int32)), zrv x0, zrv x1]) rfl rfl rfl rfl ?_
  obtain ⟨p21, i22, j23, e24, c25, c26, e27, H⟩ := zai_e H
  refine zA_ial rfl rfl e24 c25 c26 e27 ?_
  rcases zite_e H with ⟨c28, H⟩ | ⟨c28, H⟩
  · refine zA_brT (c := (zi h p21 i22 j23) = 0) rfl rfl rfl c28 ?_
    refine zA_push rfl rfl zkk7 ?_
    exact zA_tr (L := [some (zrv x0), some (zrv x1), some (zrv x2), some (zrv x3), some (zrv x4), some (zI x5), none, none, none]) rfl rfl (zmS291_649 hk16 _ _ _ _ _ _ _ _ _ _ _ H)
  · refine zA_brF (c := (zi h p21 i22 j23) = 0) rfl rfl rfl c28 ?_
    refine zA_push rfl rfl zkk5 ?_
    refine zA_go rfl rfl ?_
    exact zA_tr (L := [some (zrv x0), some (zrv x1), some (zrv x2), some (zrv x3), some (zrv x4), some (zI x5), none, none, none]) rfl rfl (zmS291_649 hk16 _ _ _ _ _ _ _ _ _ _ _ H)
def zm291_604 (k16 : zq → zq → zq → zq → zq → Int32 → zH → zRs Int32) (x0 : zq) (x1 : zq) (x2 : zq) (x3 : zq) (x4 : zq) (x5 : Int32) (h : zH) : zRs Int32 :=
  zai x0 (x5 + (1 : Int32)) h fun p21 i22 j23 =>
  zb2 (zm253 x1 (zi h p21 i22 j23) x3 h) fun x29 h28 =>
  zai x0 (x5 + (1 : Int32)) h28 fun p30 i31 j32 =>
  zob 12 x2 fun p37 i38 =>
  zb (zm186 x2 (zi h28 p30 i31 j32) h28) fun x42 h41 =>
  zb (zm137 x2 h41) fun x44 h43 =>
  if x44 = x29 then
    if x29 = 0 then
      zar 3 x3 (0 : Int32) h43 fun p47 i48 j49 =>
      if (lg_cmp (zl h43 p47 i48 j49) (x42.toInt64)) = 0 then
        zm291_2349 k16 x0 x1 x2 x3 x4 x5 h43
      else
        some (.inl (0 : Int32), h43)
    else
      zm291_2349 k16 x0 x1 x2 x3 x4 x5 h43
  else
    some (.inl (0 : Int32), h43)
theorem zmS291_604 {k16 : zq → zq → zq → zq → zq → Int32 → zH → zRs Int32} (hk16 : ∀ (x0 : zq) (x1 : zq) (x2 : zq) (x3 : zq) (x4 : zq) (x5 : Int32) (h : zH) (r : Int32 ⊕ Nat) (h' : zH), k16 x0 x1 x2 x3 x4 x5 h = some (r, h') → zAt 291 16 [some (zrv x0), some (zrv x1), some (zrv x2), some (zrv x3), some (zrv x4), some (zI x5), none, none, none] [] h (zoI r) h') : ∀ (x0 : zq) (x1 : zq) (x2 : zq) (x3 : zq) (x4 : zq) (x5 : Int32) (h : zH) (r : Int32 ⊕ Nat) (h' : zH), zm291_604 k16 x0 x1 x2 x3 x4 x5 h = some (r, h') → zAt 291 604 [some (zrv x0), some (zrv x1), some (zrv x2), some (zrv x3), some (zrv x4), some (zI x5), none, none, none] [] h (zoI r) h' := by
  intro x0 x1 x2 x3 x4 x5 h r h' H
  unfold zm291_604 at H
  refine zA_aldn rfl rfl rfl ?_
  refine zA_aldn rfl rfl rfl ?_
  refine zA_ld rfl rfl rfl ?_
  refine zA_push rfl rfl zkk5 ?_
  refine zA_st (st' := [zI (x5 + (1 : Int32)), zrv x0, zrv x1]) rfl rfl rfl rfl ?_
  obtain ⟨p21, i22, j23, e24, c25, c26, e27, H⟩ := zai_e H
  refine zA_ial rfl rfl e24 c25 c26 e27 ?_
  refine zA_aldn rfl rfl rfl ?_
  obtain ⟨x29, h28, C, H⟩ := zb2_e H
  refine zA_callV (as := [zrv x1, zI (zi h p21 i22 j23), zrv x3]) (st' := []) rfl rfl rfl rfl rfl (zmE253 _ _ _) rfl (zmS253 C) ?_
  refine zA_ist2 rfl rfl rfl (zset1 (L' := [some (zrv x0), some (zrv x1), some (zrv x2), some (zrv x3), some (zrv x4), some (zI x5), some (zI x29), none, none]) rfl rfl (zpcV rfl rfl)) ?_
  refine zA_aldn rfl rfl rfl ?_
  refine zA_aldn rfl rfl rfl ?_
  refine zA_ld rfl rfl rfl ?_
  refine zA_push rfl rfl zkk5 ?_
  refine zA_st (st' := [zI (x5 + (1 : Int32)), zrv x0, zrv x2]) rfl rfl rfl rfl ?_
  obtain ⟨p30, i31, j32, e33, c34, c35, e36, H⟩ := zai_e H
  refine zA_ial rfl rfl e33 c34 c35 e36 ?_
  obtain ⟨p37, i38, e39, c40, H⟩ := zob_e H
  rcases zb_e H with ⟨x42, h41, C, H⟩ | ⟨E, h41, C, H⟩
  · refine zA_callV (as := [zrv x2, zI (zi h28 p30 i31 j32)]) (st' := []) rfl rfl rfl (zrcv_Q e39 c40) rfl (zmE186 _ _) rfl (zmS186 C) ?_
    refine zA_ist2 rfl rfl rfl (zset1 (L' := [some (zrv x0), some (zrv x1), some (zrv x2), some (zrv x3), some (zrv x4), some (zI x5), some (zI x29), some (zI x42), none]) rfl rfl (zpcV rfl rfl)) ?_
    refine zA_aldn rfl rfl rfl ?_
    rcases zb_e H with ⟨x44, h43, C, H⟩ | ⟨E, h43, C, H⟩
    · refine zA_callV (as := [zrv x2]) (st' := []) rfl rfl rfl (zrcv_Q e39 c40) rfl (zmE137 _) rfl (zmS137 C) ?_
      refine zA_ld rfl rfl rfl ?_
      rcases zite_e H with ⟨c45, H⟩ | ⟨c45, H⟩
      · refine zA_brT (c := x44 = x29) rfl rfl rfl c45 ?_
        refine zA_ld rfl rfl rfl ?_
        rcases zite_e H with ⟨c46, H⟩ | ⟨c46, H⟩
        · refine zA_brF' (c := x29 = 0) rfl rfl rfl c46 ?_
          refine zA_aldn rfl rfl rfl ?_
          refine zA_push rfl rfl zkk7 ?_
          obtain ⟨p47, i48, j49, e50, c51, c52, e53, H⟩ := zar_e H
          refine zA_lal rfl rfl e50 c51 c52 e53 ?_
          refine zA_ld rfl rfl rfl ?_
          refine zA_st (st' := [zJ (x42.toInt64), zJ (zl h43 p47 i48 j49)]) rfl rfl rfl rfl ?_
          refine zA_st (st' := [zI (lg_cmp (zl h43 p47 i48 j49) (x42.toInt64))]) rfl rfl rfl rfl ?_
          rcases zite_e H with ⟨c54, H⟩ | ⟨c54, H⟩
          · refine zA_brT (c := (lg_cmp (zl h43 p47 i48 j49) (x42.toInt64)) = 0) rfl rfl rfl c54 ?_
            refine zA_tr (L := [some (zrv x0), some (zrv x1), some (zrv x2), some (zrv x3), some (zrv x4), some (zI x5), none, none, none]) rfl rfl ?_
            refine zA_go rfl rfl ?_
            exact zA_tr (L := [some (zrv x0), some (zrv x1), some (zrv x2), some (zrv x3), some (zrv x4), some (zI x5), none, none, none]) rfl rfl (zmS291_2349 hk16 _ _ _ _ _ _ _ _ _ H)
          · refine zA_brF (c := (lg_cmp (zl h43 p47 i48 j49) (x42.toInt64)) = 0) rfl rfl rfl c54 ?_
            refine zA_push rfl rfl zkk7 ?_
            cases H
            exact zA_ret rfl (zret_Z (by decide))
        · refine zA_brT' (c := x29 = 0) rfl rfl rfl c46 ?_
          refine zA_tr (L := [some (zrv x0), some (zrv x1), some (zrv x2), some (zrv x3), some (zrv x4), some (zI x5), none, none, none]) rfl rfl ?_
          refine zA_go rfl rfl ?_
          exact zA_tr (L := [some (zrv x0), some (zrv x1), some (zrv x2), some (zrv x3), some (zrv x4), some (zI x5), none, none, none]) rfl rfl (zmS291_2349 hk16 _ _ _ _ _ _ _ _ _ H)
      · refine zA_brF (c := x44 = x29) rfl rfl rfl c45 ?_
        refine zA_push rfl rfl zkk7 ?_
        cases H
        exact zA_ret rfl (zret_Z (by decide))
    · cases H
      exact zA_callX (as := [zrv x2]) (st' := []) rfl rfl (zrcv_Q e39 c40) rfl (zmE137 _) rfl rfl rfl (zmS137 C)
  · cases H
    exact zA_callX (as := [zrv x2, zI (zi h28 p30 i31 j32)]) (st' := []) rfl rfl (zrcv_Q e39 c40) rfl (zmE186 _ _) rfl rfl rfl (zmS186 C)
def zm291_569 (k16 : zq → zq → zq → zq → zq → Int32 → zH → zRs Int32) (x0 : zq) (x1 : zq) (x2 : zq) (x3 : zq) (x4 : zq) (x5 : Int32) (h : zH) : zRs Int32 :=
  zai x0 (x5 + (1 : Int32)) h fun p21 i22 j23 =>
  zb2 (zm252 x1 (zi h p21 i22 j23) x3 h) fun x29 h28 =>
  zai x0 (x5 + (1 : Int32)) h28 fun p30 i31 j32 =>
  zob 12 x2 fun p37 i38 =>
  zb (zm172 x2 (zi h28 p30 i31 j32) h28) fun x42 h41 =>
  zb (zm137 x2 h41) fun x44 h43 =>
  if x44 = x29 then
    if x29 = 0 then
      zar 3 x3 (0 : Int32) h43 fun p47 i48 j49 =>
      if (lg_cmp (zl h43 p47 i48 j49) (x42.toInt64)) = 0 then
        zm291_2349 k16 x0 x1 x2 x3 x4 x5 h43
      else
        some (.inl (0 : Int32), h43)
    else
      zm291_2349 k16 x0 x1 x2 x3 x4 x5 h43
  else
    some (.inl (0 : Int32), h43)
theorem zmS291_569 {k16 : zq → zq → zq → zq → zq → Int32 → zH → zRs Int32} (hk16 : ∀ (x0 : zq) (x1 : zq) (x2 : zq) (x3 : zq) (x4 : zq) (x5 : Int32) (h : zH) (r : Int32 ⊕ Nat) (h' : zH), k16 x0 x1 x2 x3 x4 x5 h = some (r, h') → zAt 291 16 [some (zrv x0), some (zrv x1), some (zrv x2), some (zrv x3), some (zrv x4), some (zI x5), none, none, none] [] h (zoI r) h') : ∀ (x0 : zq) (x1 : zq) (x2 : zq) (x3 : zq) (x4 : zq) (x5 : Int32) (h : zH) (r : Int32 ⊕ Nat) (h' : zH), zm291_569 k16 x0 x1 x2 x3 x4 x5 h = some (r, h') → zAt 291 569 [some (zrv x0), some (zrv x1), some (zrv x2), some (zrv x3), some (zrv x4), some (zI x5), none, none, none] [] h (zoI r) h' := by
  intro x0 x1 x2 x3 x4 x5 h r h' H
  unfold zm291_569 at H
  refine zA_aldn rfl rfl rfl ?_
  refine zA_aldn rfl rfl rfl ?_
  refine zA_ld rfl rfl rfl ?_
  refine zA_push rfl rfl zkk5 ?_
  refine zA_st (st' := [zI (x5 + (1 : Int32)), zrv x0, zrv x1]) rfl rfl rfl rfl ?_
  obtain ⟨p21, i22, j23, e24, c25, c26, e27, H⟩ := zai_e H
  refine zA_ial rfl rfl e24 c25 c26 e27 ?_
  refine zA_aldn rfl rfl rfl ?_
  obtain ⟨x29, h28, C, H⟩ := zb2_e H
  refine zA_callV (as := [zrv x1, zI (zi h p21 i22 j23), zrv x3]) (st' := []) rfl rfl rfl rfl rfl (zmE252 _ _ _) rfl (zmS252 C) ?_
  refine zA_ist2 rfl rfl rfl (zset1 (L' := [some (zrv x0), some (zrv x1), some (zrv x2), some (zrv x3), some (zrv x4), some (zI x5), some (zI x29), none, none]) rfl rfl (zpcV rfl rfl)) ?_
  refine zA_aldn rfl rfl rfl ?_
  refine zA_aldn rfl rfl rfl ?_
  refine zA_ld rfl rfl rfl ?_
  refine zA_push rfl rfl zkk5 ?_
  refine zA_st (st' := [zI (x5 + (1 : Int32)), zrv x0, zrv x2]) rfl rfl rfl rfl ?_
  obtain ⟨p30, i31, j32, e33, c34, c35, e36, H⟩ := zai_e H
  refine zA_ial rfl rfl e33 c34 c35 e36 ?_
  obtain ⟨p37, i38, e39, c40, H⟩ := zob_e H
  rcases zb_e H with ⟨x42, h41, C, H⟩ | ⟨E, h41, C, H⟩
  · refine zA_callV (as := [zrv x2, zI (zi h28 p30 i31 j32)]) (st' := []) rfl rfl rfl (zrcv_Q e39 c40) rfl (zmE172 _ _) rfl (zmS172 C) ?_
    refine zA_ist2 rfl rfl rfl (zset1 (L' := [some (zrv x0), some (zrv x1), some (zrv x2), some (zrv x3), some (zrv x4), some (zI x5), some (zI x29), some (zI x42), none]) rfl rfl (zpcV rfl rfl)) ?_
    refine zA_aldn rfl rfl rfl ?_
    rcases zb_e H with ⟨x44, h43, C, H⟩ | ⟨E, h43, C, H⟩
    · refine zA_callV (as := [zrv x2]) (st' := []) rfl rfl rfl (zrcv_Q e39 c40) rfl (zmE137 _) rfl (zmS137 C) ?_
      refine zA_ld rfl rfl rfl ?_
      rcases zite_e H with ⟨c45, H⟩ | ⟨c45, H⟩
      · refine zA_brT (c := x44 = x29) rfl rfl rfl c45 ?_
        refine zA_ld rfl rfl rfl ?_
        rcases zite_e H with ⟨c46, H⟩ | ⟨c46, H⟩
        · refine zA_brF' (c := x29 = 0) rfl rfl rfl c46 ?_
          refine zA_aldn rfl rfl rfl ?_
          refine zA_push rfl rfl zkk7 ?_
          obtain ⟨p47, i48, j49, e50, c51, c52, e53, H⟩ := zar_e H
          refine zA_lal rfl rfl e50 c51 c52 e53 ?_
          refine zA_ld rfl rfl rfl ?_
          refine zA_st (st' := [zJ (x42.toInt64), zJ (zl h43 p47 i48 j49)]) rfl rfl rfl rfl ?_
          refine zA_st (st' := [zI (lg_cmp (zl h43 p47 i48 j49) (x42.toInt64))]) rfl rfl rfl rfl ?_
          rcases zite_e H with ⟨c54, H⟩ | ⟨c54, H⟩
          · refine zA_brT (c := (lg_cmp (zl h43 p47 i48 j49) (x42.toInt64)) = 0) rfl rfl rfl c54 ?_
            refine zA_tr (L := [some (zrv x0), some (zrv x1), some (zrv x2), some (zrv x3), some (zrv x4), some (zI x5), none, none, none]) rfl rfl ?_
            refine zA_go rfl rfl ?_
            exact zA_tr (L := [some (zrv x0), some (zrv x1), some (zrv x2), some (zrv x3), some (zrv x4), some (zI x5), none, none, none]) rfl rfl (zmS291_2349 hk16 _ _ _ _ _ _ _ _ _ H)
          · refine zA_brF (c := (lg_cmp (zl h43 p47 i48 j49) (x42.toInt64)) = 0) rfl rfl rfl c54 ?_
            refine zA_push rfl rfl zkk7 ?_
            cases H
            exact zA_ret rfl (zret_Z (by decide))
        · refine zA_brT' (c := x29 = 0) rfl rfl rfl c46 ?_
          refine zA_tr (L := [some (zrv x0), some (zrv x1), some (zrv x2), some (zrv x3), some (zrv x4), some (zI x5), none, none, none]) rfl rfl ?_
          refine zA_go rfl rfl ?_
          exact zA_tr (L := [some (zrv x0), some (zrv x1), some (zrv x2), some (zrv x3), some (zrv x4), some (zI x5), none, none, none]) rfl rfl (zmS291_2349 hk16 _ _ _ _ _ _ _ _ _ H)
      · refine zA_brF (c := x44 = x29) rfl rfl rfl c45 ?_
        refine zA_push rfl rfl zkk7 ?_
        cases H
        exact zA_ret rfl (zret_Z (by decide))
    · cases H
      exact zA_callX (as := [zrv x2]) (st' := []) rfl rfl (zrcv_Q e39 c40) rfl (zmE137 _) rfl rfl rfl (zmS137 C)
  · cases H
    exact zA_callX (as := [zrv x2, zI (zi h28 p30 i31 j32)]) (st' := []) rfl rfl (zrcv_Q e39 c40) rfl (zmE172 _ _) rfl rfl rfl (zmS172 C)
def zm291_534 (k16 : zq → zq → zq → zq → zq → Int32 → zH → zRs Int32) (x0 : zq) (x1 : zq) (x2 : zq) (x3 : zq) (x4 : zq) (x5 : Int32) (h : zH) : zRs Int32 :=
  zai x0 (x5 + (1 : Int32)) h fun p21 i22 j23 =>
  zb2 (zm251 x1 (zi h p21 i22 j23) x3 h) fun x29 h28 =>
  zai x0 (x5 + (1 : Int32)) h28 fun p30 i31 j32 =>
  zob 12 x2 fun p37 i38 =>
  zb (zm163 x2 (zi h28 p30 i31 j32) h28) fun x42 h41 =>
  zb (zm137 x2 h41) fun x44 h43 =>
  if x44 = x29 then
    if x29 = 0 then
      zar 3 x3 (0 : Int32) h43 fun p47 i48 j49 =>
      if (lg_cmp (zl h43 p47 i48 j49) (x42.toInt64)) = 0 then
        zm291_2349 k16 x0 x1 x2 x3 x4 x5 h43
      else
        some (.inl (0 : Int32), h43)
    else
      zm291_2349 k16 x0 x1 x2 x3 x4 x5 h43
  else
    some (.inl (0 : Int32), h43)
theorem zmS291_534 {k16 : zq → zq → zq → zq → zq → Int32 → zH → zRs Int32} (hk16 : ∀ (x0 : zq) (x1 : zq) (x2 : zq) (x3 : zq) (x4 : zq) (x5 : Int32) (h : zH) (r : Int32 ⊕ Nat) (h' : zH), k16 x0 x1 x2 x3 x4 x5 h = some (r, h') → zAt 291 16 [some (zrv x0), some (zrv x1), some (zrv x2), some (zrv x3), some (zrv x4), some (zI x5), none, none, none] [] h (zoI r) h') : ∀ (x0 : zq) (x1 : zq) (x2 : zq) (x3 : zq) (x4 : zq) (x5 : Int32) (h : zH) (r : Int32 ⊕ Nat) (h' : zH), zm291_534 k16 x0 x1 x2 x3 x4 x5 h = some (r, h') → zAt 291 534 [some (zrv x0), some (zrv x1), some (zrv x2), some (zrv x3), some (zrv x4), some (zI x5), none, none, none] [] h (zoI r) h' := by
  intro x0 x1 x2 x3 x4 x5 h r h' H
  unfold zm291_534 at H
  refine zA_aldn rfl rfl rfl ?_
  refine zA_aldn rfl rfl rfl ?_
  refine zA_ld rfl rfl rfl ?_
  refine zA_push rfl rfl zkk5 ?_
  refine zA_st (st' := [zI (x5 + (1 : Int32)), zrv x0, zrv x1]) rfl rfl rfl rfl ?_
  obtain ⟨p21, i22, j23, e24, c25, c26, e27, H⟩ := zai_e H
  refine zA_ial rfl rfl e24 c25 c26 e27 ?_
  refine zA_aldn rfl rfl rfl ?_
  obtain ⟨x29, h28, C, H⟩ := zb2_e H
  refine zA_callV (as := [zrv x1, zI (zi h p21 i22 j23), zrv x3]) (st' := []) rfl rfl rfl rfl rfl (zmE251 _ _ _) rfl (zmS251 C) ?_
  refine zA_ist2 rfl rfl rfl (zset1 (L' := [some (zrv x0), some (zrv x1), some (zrv x2), some (zrv x3), some (zrv x4), some (zI x5), some (zI x29), none, none]) rfl rfl (zpcV rfl rfl)) ?_
  refine zA_aldn rfl rfl rfl ?_
  refine zA_aldn rfl rfl rfl ?_
  refine zA_ld rfl rfl rfl ?_
  refine zA_push rfl rfl zkk5 ?_
  refine zA_st (st' := [zI (x5 + (1 : Int32)), zrv x0, zrv x2]) rfl rfl rfl rfl ?_
  obtain ⟨p30, i31, j32, e33, c34, c35, e36, H⟩ := zai_e H
  refine zA_ial rfl rfl e33 c34 c35 e36 ?_
  obtain ⟨p37, i38, e39, c40, H⟩ := zob_e H
  rcases zb_e H with ⟨x42, h41, C, H⟩ | ⟨E, h41, C, H⟩
  · refine zA_callV (as := [zrv x2, zI (zi h28 p30 i31 j32)]) (st' := []) rfl rfl rfl (zrcv_Q e39 c40) rfl (zmE163 _ _) rfl (zmS163 C) ?_
    refine zA_ist2 rfl rfl rfl (zset1 (L' := [some (zrv x0), some (zrv x1), some (zrv x2), some (zrv x3), some (zrv x4), some (zI x5), some (zI x29), some (zI x42), none]) rfl rfl (zpcV rfl rfl)) ?_
    refine zA_aldn rfl rfl rfl ?_
    rcases zb_e H with ⟨x44, h43, C, H⟩ | ⟨E, h43, C, H⟩
    · refine zA_callV (as := [zrv x2]) (st' := []) rfl rfl rfl (zrcv_Q e39 c40) rfl (zmE137 _) rfl (zmS137 C) ?_
      refine zA_ld rfl rfl rfl ?_
      rcases zite_e H with ⟨c45, H⟩ | ⟨c45, H⟩
      · refine zA_brT (c := x44 = x29) rfl rfl rfl c45 ?_
        refine zA_ld rfl rfl rfl ?_
        rcases zite_e H with ⟨c46, H⟩ | ⟨c46, H⟩
        · refine zA_brF' (c := x29 = 0) rfl rfl rfl c46 ?_
          refine zA_aldn rfl rfl rfl ?_
          refine zA_push rfl rfl zkk7 ?_
          obtain ⟨p47, i48, j49, e50, c51, c52, e53, H⟩ := zar_e H
          refine zA_lal rfl rfl e50 c51 c52 e53 ?_
          refine zA_ld rfl rfl rfl ?_
          refine zA_st (st' := [zJ (x42.toInt64), zJ (zl h43 p47 i48 j49)]) rfl rfl rfl rfl ?_
          refine zA_st (st' := [zI (lg_cmp (zl h43 p47 i48 j49) (x42.toInt64))]) rfl rfl rfl rfl ?_
          rcases zite_e H with ⟨c54, H⟩ | ⟨c54, H⟩
          · refine zA_brT (c := (lg_cmp (zl h43 p47 i48 j49) (x42.toInt64)) = 0) rfl rfl rfl c54 ?_
            refine zA_tr (L := [some (zrv x0), some (zrv x1), some (zrv x2), some (zrv x3), some (zrv x4), some (zI x5), none, none, none]) rfl rfl ?_
            refine zA_go rfl rfl ?_
            exact zA_tr (L := [some (zrv x0), some (zrv x1), some (zrv x2), some (zrv x3), some (zrv x4), some (zI x5), none, none, none]) rfl rfl (zmS291_2349 hk16 _ _ _ _ _ _ _ _ _ H)
          · refine zA_brF (c := (lg_cmp (zl h43 p47 i48 j49) (x42.toInt64)) = 0) rfl rfl rfl c54 ?_
            refine zA_push rfl rfl zkk7 ?_
            cases H
            exact zA_ret rfl (zret_Z (by decide))
        · refine zA_brT' (c := x29 = 0) rfl rfl rfl c46 ?_
          refine zA_tr (L := [some (zrv x0), some (zrv x1), some (zrv x2), some (zrv x3), some (zrv x4), some (zI x5), none, none, none]) rfl rfl ?_
          refine zA_go rfl rfl ?_
          exact zA_tr (L := [some (zrv x0), some (zrv x1), some (zrv x2), some (zrv x3), some (zrv x4), some (zI x5), none, none, none]) rfl rfl (zmS291_2349 hk16 _ _ _ _ _ _ _ _ _ H)
      · refine zA_brF (c := x44 = x29) rfl rfl rfl c45 ?_
        refine zA_push rfl rfl zkk7 ?_
        cases H
        exact zA_ret rfl (zret_Z (by decide))
    · cases H
      exact zA_callX (as := [zrv x2]) (st' := []) rfl rfl (zrcv_Q e39 c40) rfl (zmE137 _) rfl rfl rfl (zmS137 C)
  · cases H
    exact zA_callX (as := [zrv x2, zI (zi h28 p30 i31 j32)]) (st' := []) rfl rfl (zrcv_Q e39 c40) rfl (zmE163 _ _) rfl rfl rfl (zmS163 C)
def zm291_499 (k16 : zq → zq → zq → zq → zq → Int32 → zH → zRs Int32) (x0 : zq) (x1 : zq) (x2 : zq) (x3 : zq) (x4 : zq) (x5 : Int32) (h : zH) : zRs Int32 :=
  zai x0 (x5 + (1 : Int32)) h fun p21 i22 j23 =>
  zb2 (zm250 x1 (zi h p21 i22 j23) x3 h) fun x29 h28 =>
  zai x0 (x5 + (1 : Int32)) h28 fun p30 i31 j32 =>
  zob 12 x2 fun p37 i38 =>
  zb (zm162 x2 (zi h28 p30 i31 j32) h28) fun x42 h41 =>
  zb (zm137 x2 h41) fun x44 h43 =>
  if x44 = x29 then
    if x29 = 0 then
      zar 3 x3 (0 : Int32) h43 fun p47 i48 j49 =>
      if (lg_cmp (zl h43 p47 i48 j49) (x42.toInt64)) = 0 then
        zm291_2349 k16 x0 x1 x2 x3 x4 x5 h43
      else
        some (.inl (0 : Int32), h43)
    else
      zm291_2349 k16 x0 x1 x2 x3 x4 x5 h43
  else
    some (.inl (0 : Int32), h43)
theorem zmS291_499 {k16 : zq → zq → zq → zq → zq → Int32 → zH → zRs Int32} (hk16 : ∀ (x0 : zq) (x1 : zq) (x2 : zq) (x3 : zq) (x4 : zq) (x5 : Int32) (h : zH) (r : Int32 ⊕ Nat) (h' : zH), k16 x0 x1 x2 x3 x4 x5 h = some (r, h') → zAt 291 16 [some (zrv x0), some (zrv x1), some (zrv x2), some (zrv x3), some (zrv x4), some (zI x5), none, none, none] [] h (zoI r) h') : ∀ (x0 : zq) (x1 : zq) (x2 : zq) (x3 : zq) (x4 : zq) (x5 : Int32) (h : zH) (r : Int32 ⊕ Nat) (h' : zH), zm291_499 k16 x0 x1 x2 x3 x4 x5 h = some (r, h') → zAt 291 499 [some (zrv x0), some (zrv x1), some (zrv x2), some (zrv x3), some (zrv x4), some (zI x5), none, none, none] [] h (zoI r) h' := by
  intro x0 x1 x2 x3 x4 x5 h r h' H
  unfold zm291_499 at H
  refine zA_aldn rfl rfl rfl ?_
  refine zA_aldn rfl rfl rfl ?_
  refine zA_ld rfl rfl rfl ?_
  refine zA_push rfl rfl zkk5 ?_
  refine zA_st (st' := [zI (x5 + (1 : Int32)), zrv x0, zrv x1]) rfl rfl rfl rfl ?_
  obtain ⟨p21, i22, j23, e24, c25, c26, e27, H⟩ := zai_e H
  refine zA_ial rfl rfl e24 c25 c26 e27 ?_
  refine zA_aldn rfl rfl rfl ?_
  obtain ⟨x29, h28, C, H⟩ := zb2_e H
  refine zA_callV (as := [zrv x1, zI (zi h p21 i22 j23), zrv x3]) (st' := []) rfl rfl rfl rfl rfl (zmE250 _ _ _) rfl (zmS250 C) ?_
  refine zA_ist2 rfl rfl rfl (zset1 (L' := [some (zrv x0), some (zrv x1), some (zrv x2), some (zrv x3), some (zrv x4), some (zI x5), some (zI x29), none, none]) rfl rfl (zpcV rfl rfl)) ?_
  refine zA_aldn rfl rfl rfl ?_
  refine zA_aldn rfl rfl rfl ?_
  refine zA_ld rfl rfl rfl ?_
  refine zA_push rfl rfl zkk5 ?_
  refine zA_st (st' := [zI (x5 + (1 : Int32)), zrv x0, zrv x2]) rfl rfl rfl rfl ?_
  obtain ⟨p30, i31, j32, e33, c34, c35, e36, H⟩ := zai_e H
  refine zA_ial rfl rfl e33 c34 c35 e36 ?_
  obtain ⟨p37, i38, e39, c40, H⟩ := zob_e H
  rcases zb_e H with ⟨x42, h41, C, H⟩ | ⟨E, h41, C, H⟩
  · refine zA_callV (as := [zrv x2, zI (zi h28 p30 i31 j32)]) (st' := []) rfl rfl rfl (zrcv_Q e39 c40) rfl (zmE162 _ _) rfl (zmS162 C) ?_
    refine zA_ist2 rfl rfl rfl (zset1 (L' := [some (zrv x0), some (zrv x1), some (zrv x2), some (zrv x3), some (zrv x4), some (zI x5), some (zI x29), some (zI x42), none]) rfl rfl (zpcV rfl rfl)) ?_
    refine zA_aldn rfl rfl rfl ?_
    rcases zb_e H with ⟨x44, h43, C, H⟩ | ⟨E, h43, C, H⟩
    · refine zA_callV (as := [zrv x2]) (st' := []) rfl rfl rfl (zrcv_Q e39 c40) rfl (zmE137 _) rfl (zmS137 C) ?_
      refine zA_ld rfl rfl rfl ?_
      rcases zite_e H with ⟨c45, H⟩ | ⟨c45, H⟩
      · refine zA_brT (c := x44 = x29) rfl rfl rfl c45 ?_
        refine zA_ld rfl rfl rfl ?_
        rcases zite_e H with ⟨c46, H⟩ | ⟨c46, H⟩
        · refine zA_brF' (c := x29 = 0) rfl rfl rfl c46 ?_
          refine zA_aldn rfl rfl rfl ?_
          refine zA_push rfl rfl zkk7 ?_
          obtain ⟨p47, i48, j49, e50, c51, c52, e53, H⟩ := zar_e H
          refine zA_lal rfl rfl e50 c51 c52 e53 ?_
          refine zA_ld rfl rfl rfl ?_
          refine zA_st (st' := [zJ (x42.toInt64), zJ (zl h43 p47 i48 j49)]) rfl rfl rfl rfl ?_
          refine zA_st (st' := [zI (lg_cmp (zl h43 p47 i48 j49) (x42.toInt64))]) rfl rfl rfl rfl ?_
          rcases zite_e H with ⟨c54, H⟩ | ⟨c54, H⟩
          · refine zA_brT (c := (lg_cmp (zl h43 p47 i48 j49) (x42.toInt64)) = 0) rfl rfl rfl c54 ?_
            refine zA_tr (L := [some (zrv x0), some (zrv x1), some (zrv x2), some (zrv x3), some (zrv x4), some (zI x5), none, none, none]) rfl rfl ?_
            refine zA_go rfl rfl ?_
            exact zA_tr (L := [some (zrv x0), some (zrv x1), some (zrv x2), some (zrv x3), some (zrv x4), some (zI x5), none, none, none]) rfl rfl (zmS291_2349 hk16 _ _ _ _ _ _ _ _ _ H)
          · refine zA_brF (c := (lg_cmp (zl h43 p47 i48 j49) (x42.toInt64)) = 0) rfl rfl rfl c54 ?_
            refine zA_push rfl rfl zkk7 ?_
            cases H
            exact zA_ret rfl (zret_Z (by decide))
        · refine zA_brT' (c := x29 = 0) rfl rfl rfl c46 ?_
          refine zA_tr (L := [some (zrv x0), some (zrv x1), some (zrv x2), some (zrv x3), some (zrv x4), some (zI x5), none, none, none]) rfl rfl ?_
          refine zA_go rfl rfl ?_
          exact zA_tr (L := [some (zrv x0), some (zrv x1), some (zrv x2), some (zrv x3), some (zrv x4), some (zI x5), none, none, none]) rfl rfl (zmS291_2349 hk16 _ _ _ _ _ _ _ _ _ H)
      · refine zA_brF (c := x44 = x29) rfl rfl rfl c45 ?_
        refine zA_push rfl rfl zkk7 ?_
        cases H
        exact zA_ret rfl (zret_Z (by decide))
    · cases H
      exact zA_callX (as := [zrv x2]) (st' := []) rfl rfl (zrcv_Q e39 c40) rfl (zmE137 _) rfl rfl rfl (zmS137 C)
  · cases H
    exact zA_callX (as := [zrv x2, zI (zi h28 p30 i31 j32)]) (st' := []) rfl rfl (zrcv_Q e39 c40) rfl (zmE162 _ _) rfl rfl rfl (zmS162 C)
def zm291_464 (k16 : zq → zq → zq → zq → zq → Int32 → zH → zRs Int32) (x0 : zq) (x1 : zq) (x2 : zq) (x3 : zq) (x4 : zq) (x5 : Int32) (h : zH) : zRs Int32 :=
  zai x0 (x5 + (1 : Int32)) h fun p21 i22 j23 =>
  zb2 (zm249 x1 (zi h p21 i22 j23) x3 h) fun x29 h28 =>
  zai x0 (x5 + (1 : Int32)) h28 fun p30 i31 j32 =>
  zob 12 x2 fun p37 i38 =>
  zb (zm161 x2 (zi h28 p30 i31 j32) h28) fun x42 h41 =>
  zb (zm137 x2 h41) fun x44 h43 =>
  if x44 = x29 then
    if x29 = 0 then
      zar 3 x3 (0 : Int32) h43 fun p47 i48 j49 =>
      if (lg_cmp (zl h43 p47 i48 j49) (x42.toInt64)) = 0 then
        zm291_2349 k16 x0 x1 x2 x3 x4 x5 h43
      else
        some (.inl (0 : Int32), h43)
    else
      zm291_2349 k16 x0 x1 x2 x3 x4 x5 h43
  else
    some (.inl (0 : Int32), h43)
theorem zmS291_464 {k16 : zq → zq → zq → zq → zq → Int32 → zH → zRs Int32} (hk16 : ∀ (x0 : zq) (x1 : zq) (x2 : zq) (x3 : zq) (x4 : zq) (x5 : Int32) (h : zH) (r : Int32 ⊕ Nat) (h' : zH), k16 x0 x1 x2 x3 x4 x5 h = some (r, h') → zAt 291 16 [some (zrv x0), some (zrv x1), some (zrv x2), some (zrv x3), some (zrv x4), some (zI x5), none, none, none] [] h (zoI r) h') : ∀ (x0 : zq) (x1 : zq) (x2 : zq) (x3 : zq) (x4 : zq) (x5 : Int32) (h : zH) (r : Int32 ⊕ Nat) (h' : zH), zm291_464 k16 x0 x1 x2 x3 x4 x5 h = some (r, h') → zAt 291 464 [some (zrv x0), some (zrv x1), some (zrv x2), some (zrv x3), some (zrv x4), some (zI x5), none, none, none] [] h (zoI r) h' := by
  intro x0 x1 x2 x3 x4 x5 h r h' H
  unfold zm291_464 at H
  refine zA_aldn rfl rfl rfl ?_
  refine zA_aldn rfl rfl rfl ?_
  refine zA_ld rfl rfl rfl ?_
  refine zA_push rfl rfl zkk5 ?_
  refine zA_st (st' := [zI (x5 + (1 : Int32)), zrv x0, zrv x1]) rfl rfl rfl rfl ?_
  obtain ⟨p21, i22, j23, e24, c25, c26, e27, H⟩ := zai_e H
  refine zA_ial rfl rfl e24 c25 c26 e27 ?_
  refine zA_aldn rfl rfl rfl ?_
  obtain ⟨x29, h28, C, H⟩ := zb2_e H
  refine zA_callV (as := [zrv x1, zI (zi h p21 i22 j23), zrv x3]) (st' := []) rfl rfl rfl rfl rfl (zmE249 _ _ _) rfl (zmS249 C) ?_
  refine zA_ist2 rfl rfl rfl (zset1 (L' := [some (zrv x0), some (zrv x1), some (zrv x2), some (zrv x3), some (zrv x4), some (zI x5), some (zI x29), none, none]) rfl rfl (zpcV rfl rfl)) ?_
  refine zA_aldn rfl rfl rfl ?_
  refine zA_aldn rfl rfl rfl ?_
  refine zA_ld rfl rfl rfl ?_
  refine zA_push rfl rfl zkk5 ?_
  refine zA_st (st' := [zI (x5 + (1 : Int32)), zrv x0, zrv x2]) rfl rfl rfl rfl ?_
  obtain ⟨p30, i31, j32, e33, c34, c35, e36, H⟩ := zai_e H
  refine zA_ial rfl rfl e33 c34 c35 e36 ?_
  obtain ⟨p37, i38, e39, c40, H⟩ := zob_e H
  rcases zb_e H with ⟨x42, h41, C, H⟩ | ⟨E, h41, C, H⟩
  · refine zA_callV (as := [zrv x2, zI (zi h28 p30 i31 j32)]) (st' := []) rfl rfl rfl (zrcv_Q e39 c40) rfl (zmE161 _ _) rfl (zmS161 C) ?_
    refine zA_ist2 rfl rfl rfl (zset1 (L' := [some (zrv x0), some (zrv x1), some (zrv x2), some (zrv x3), some (zrv x4), some (zI x5), some (zI x29), some (zI x42), none]) rfl rfl (zpcV rfl rfl)) ?_
    refine zA_aldn rfl rfl rfl ?_
    rcases zb_e H with ⟨x44, h43, C, H⟩ | ⟨E, h43, C, H⟩
    · refine zA_callV (as := [zrv x2]) (st' := []) rfl rfl rfl (zrcv_Q e39 c40) rfl (zmE137 _) rfl (zmS137 C) ?_
      refine zA_ld rfl rfl rfl ?_
      rcases zite_e H with ⟨c45, H⟩ | ⟨c45, H⟩
      · refine zA_brT (c := x44 = x29) rfl rfl rfl c45 ?_
        refine zA_ld rfl rfl rfl ?_
        rcases zite_e H with ⟨c46, H⟩ | ⟨c46, H⟩
        · refine zA_brF' (c := x29 = 0) rfl rfl rfl c46 ?_
          refine zA_aldn rfl rfl rfl ?_
          refine zA_push rfl rfl zkk7 ?_
          obtain ⟨p47, i48, j49, e50, c51, c52, e53, H⟩ := zar_e H
          refine zA_lal rfl rfl e50 c51 c52 e53 ?_
          refine zA_ld rfl rfl rfl ?_
          refine zA_st (st' := [zJ (x42.toInt64), zJ (zl h43 p47 i48 j49)]) rfl rfl rfl rfl ?_
          refine zA_st (st' := [zI (lg_cmp (zl h43 p47 i48 j49) (x42.toInt64))]) rfl rfl rfl rfl ?_
          rcases zite_e H with ⟨c54, H⟩ | ⟨c54, H⟩
          · refine zA_brT (c := (lg_cmp (zl h43 p47 i48 j49) (x42.toInt64)) = 0) rfl rfl rfl c54 ?_
            refine zA_tr (L := [some (zrv x0), some (zrv x1), some (zrv x2), some (zrv x3), some (zrv x4), some (zI x5), none, none, none]) rfl rfl ?_
            refine zA_go rfl rfl ?_
            exact zA_tr (L := [some (zrv x0), some (zrv x1), some (zrv x2), some (zrv x3), some (zrv x4), some (zI x5), none, none, none]) rfl rfl (zmS291_2349 hk16 _ _ _ _ _ _ _ _ _ H)
          · refine zA_brF (c := (lg_cmp (zl h43 p47 i48 j49) (x42.toInt64)) = 0) rfl rfl rfl c54 ?_
            refine zA_push rfl rfl zkk7 ?_
            cases H
            exact zA_ret rfl (zret_Z (by decide))
        · refine zA_brT' (c := x29 = 0) rfl rfl rfl c46 ?_
          refine zA_tr (L := [some (zrv x0), some (zrv x1), some (zrv x2), some (zrv x3), some (zrv x4), some (zI x5), none, none, none]) rfl rfl ?_
          refine zA_go rfl rfl ?_
          exact zA_tr (L := [some (zrv x0), some (zrv x1), some (zrv x2), some (zrv x3), some (zrv x4), some (zI x5), none, none, none]) rfl rfl (zmS291_2349 hk16 _ _ _ _ _ _ _ _ _ H)
      · refine zA_brF (c := x44 = x29) rfl rfl rfl c45 ?_
        refine zA_push rfl rfl zkk7 ?_
        cases H
        exact zA_ret rfl (zret_Z (by decide))
    · cases H
      exact zA_callX (as := [zrv x2]) (st' := []) rfl rfl (zrcv_Q e39 c40) rfl (zmE137 _) rfl rfl rfl (zmS137 C)
  · cases H
    exact zA_callX (as := [zrv x2, zI (zi h28 p30 i31 j32)]) (st' := []) rfl rfl (zrcv_Q e39 c40) rfl (zmE161 _ _) rfl rfl rfl (zmS161 C)
def zm291_419 (k16 : zq → zq → zq → zq → zq → Int32 → zH → zRs Int32) (x0 : zq) (x1 : zq) (x2 : zq) (x3 : zq) (x4 : zq) (x5 : Int32) (h : zH) : zRs Int32 :=
  zai x0 (x5 + (1 : Int32)) h fun p21 i22 j23 =>
  zai x0 (x5 + (2 : Int32)) h fun p28 i29 j30 =>
  zb2 (zm248 x1 (zi h p21 i22 j23) (zi h p28 i29 j30) x3 h) fun x36 h35 =>
  zai x0 (x5 + (1 : Int32)) h35 fun p37 i38 j39 =>
  zai x0 (x5 + (2 : Int32)) h35 fun p44 i45 j46 =>
  zob 12 x2 fun p51 i52 =>
  zb (zm160 x2 (zi h35 p37 i38 j39) (zi h35 p44 i45 j46) h35) fun x56 h55 =>
  zb (zm137 x2 h55) fun x58 h57 =>
  if x58 = x36 then
    if x36 = 0 then
      zar 3 x3 (0 : Int32) h57 fun p61 i62 j63 =>
      if (lg_cmp (zl h57 p61 i62 j63) (x56.toInt64)) = 0 then
        zm291_2349 k16 x0 x1 x2 x3 x4 x5 h57
      else
        some (.inl (0 : Int32), h57)
    else
      zm291_2349 k16 x0 x1 x2 x3 x4 x5 h57
  else
    some (.inl (0 : Int32), h57)
theorem zmS291_419 {k16 : zq → zq → zq → zq → zq → Int32 → zH → zRs Int32} (hk16 : ∀ (x0 : zq) (x1 : zq) (x2 : zq) (x3 : zq) (x4 : zq) (x5 : Int32) (h : zH) (r : Int32 ⊕ Nat) (h' : zH), k16 x0 x1 x2 x3 x4 x5 h = some (r, h') → zAt 291 16 [some (zrv x0), some (zrv x1), some (zrv x2), some (zrv x3), some (zrv x4), some (zI x5), none, none, none] [] h (zoI r) h') : ∀ (x0 : zq) (x1 : zq) (x2 : zq) (x3 : zq) (x4 : zq) (x5 : Int32) (h : zH) (r : Int32 ⊕ Nat) (h' : zH), zm291_419 k16 x0 x1 x2 x3 x4 x5 h = some (r, h') → zAt 291 419 [some (zrv x0), some (zrv x1), some (zrv x2), some (zrv x3), some (zrv x4), some (zI x5), none, none, none] [] h (zoI r) h' := by
  intro x0 x1 x2 x3 x4 x5 h r h' H
  unfold zm291_419 at H
  refine zA_aldn rfl rfl rfl ?_
  refine zA_aldn rfl rfl rfl ?_
  refine zA_ld rfl rfl rfl ?_
  refine zA_push rfl rfl zkk5 ?_
  refine zA_st (st' := [zI (x5 + (1 : Int32)), zrv x0, zrv x1]) rfl rfl rfl rfl ?_
  obtain ⟨p21, i22, j23, e24, c25, c26, e27, H⟩ := zai_e H
  refine zA_ial rfl rfl e24 c25 c26 e27 ?_
  refine zA_aldn rfl rfl rfl ?_
  refine zA_ld rfl rfl rfl ?_
  refine zA_push rfl rfl zkk23 ?_
  refine zA_st (st' := [zI (x5 + (2 : Int32)), zrv x0, zI (zi h p21 i22 j23), zrv x1]) rfl rfl rfl rfl ?_
  obtain ⟨p28, i29, j30, e31, c32, c33, e34, H⟩ := zai_e H
  refine zA_ial rfl rfl e31 c32 c33 e34 ?_
  refine zA_aldn rfl rfl rfl ?_
  obtain ⟨x36, h35, C, H⟩ := zb2_e H
  refine zA_callV (as := [zrv x1, zI (zi h p21 i22 j23), zI (zi h p28 i29 j30), zrv x3]) (st' := []) rfl rfl rfl rfl rfl (zmE248 _ _ _ _) rfl (zmS248 C) ?_
  refine zA_ist2 rfl rfl rfl (zset1 (L' := [some (zrv x0), some (zrv x1), some (zrv x2), some (zrv x3), some (zrv x4), some (zI x5), some (zI x36), none, none]) rfl rfl (zpcV rfl rfl)) ?_
  refine zA_aldn rfl rfl rfl ?_
  refine zA_aldn rfl rfl rfl ?_
  refine zA_ld rfl rfl rfl ?_
  refine zA_push rfl rfl zkk5 ?_
  refine zA_st (st' := [zI (x5 + (1 : Int32)), zrv x0, zrv x2]) rfl rfl rfl rfl ?_
  obtain ⟨p37, i38, j39, e40, c41, c42, e43, H⟩ := zai_e H
  refine zA_ial rfl rfl e40 c41 c42 e43 ?_
  refine zA_aldn rfl rfl rfl ?_
  refine zA_ld rfl rfl rfl ?_
  refine zA_push rfl rfl zkk23 ?_
  refine zA_st (st' := [zI (x5 + (2 : Int32)), zrv x0, zI (zi h35 p37 i38 j39), zrv x2]) rfl rfl rfl rfl ?_
  obtain ⟨p44, i45, j46, e47, c48, c49, e50, H⟩ := zai_e H
  refine zA_ial rfl rfl e47 c48 c49 e50 ?_
  obtain ⟨p51, i52, e53, c54, H⟩ := zob_e H
  rcases zb_e H with ⟨x56, h55, C, H⟩ | ⟨E, h55, C, H⟩
  · refine zA_callV (as := [zrv x2, zI (zi h35 p37 i38 j39), zI (zi h35 p44 i45 j46)]) (st' := []) rfl rfl rfl (zrcv_Q e53 c54) rfl (zmE160 _ _ _) rfl (zmS160 C) ?_
    refine zA_ist2 rfl rfl rfl (zset1 (L' := [some (zrv x0), some (zrv x1), some (zrv x2), some (zrv x3), some (zrv x4), some (zI x5), some (zI x36), some (zI x56), none]) rfl rfl (zpcV rfl rfl)) ?_
    refine zA_aldn rfl rfl rfl ?_
    rcases zb_e H with ⟨x58, h57, C, H⟩ | ⟨E, h57, C, H⟩
    · refine zA_callV (as := [zrv x2]) (st' := []) rfl rfl rfl (zrcv_Q e53 c54) rfl (zmE137 _) rfl (zmS137 C) ?_
      refine zA_ld rfl rfl rfl ?_
      rcases zite_e H with ⟨c59, H⟩ | ⟨c59, H⟩
      · refine zA_brT (c := x58 = x36) rfl rfl rfl c59 ?_
        refine zA_ld rfl rfl rfl ?_
        rcases zite_e H with ⟨c60, H⟩ | ⟨c60, H⟩
        · refine zA_brF' (c := x36 = 0) rfl rfl rfl c60 ?_
          refine zA_aldn rfl rfl rfl ?_
          refine zA_push rfl rfl zkk7 ?_
          obtain ⟨p61, i62, j63, e64, c65, c66, e67, H⟩ := zar_e H
          refine zA_lal rfl rfl e64 c65 c66 e67 ?_
          refine zA_ld rfl rfl rfl ?_
          refine zA_st (st' := [zJ (x56.toInt64), zJ (zl h57 p61 i62 j63)]) rfl rfl rfl rfl ?_
          refine zA_st (st' := [zI (lg_cmp (zl h57 p61 i62 j63) (x56.toInt64))]) rfl rfl rfl rfl ?_
          rcases zite_e H with ⟨c68, H⟩ | ⟨c68, H⟩
          · refine zA_brT (c := (lg_cmp (zl h57 p61 i62 j63) (x56.toInt64)) = 0) rfl rfl rfl c68 ?_
            refine zA_tr (L := [some (zrv x0), some (zrv x1), some (zrv x2), some (zrv x3), some (zrv x4), some (zI x5), none, none, none]) rfl rfl ?_
            refine zA_go rfl rfl ?_
            exact zA_tr (L := [some (zrv x0), some (zrv x1), some (zrv x2), some (zrv x3), some (zrv x4), some (zI x5), none, none, none]) rfl rfl (zmS291_2349 hk16 _ _ _ _ _ _ _ _ _ H)
          · refine zA_brF (c := (lg_cmp (zl h57 p61 i62 j63) (x56.toInt64)) = 0) rfl rfl rfl c68 ?_
            refine zA_push rfl rfl zkk7 ?_
            cases H
            exact zA_ret rfl (zret_Z (by decide))
        · refine zA_brT' (c := x36 = 0) rfl rfl rfl c60 ?_
          refine zA_tr (L := [some (zrv x0), some (zrv x1), some (zrv x2), some (zrv x3), some (zrv x4), some (zI x5), none, none, none]) rfl rfl ?_
          refine zA_go rfl rfl ?_
          exact zA_tr (L := [some (zrv x0), some (zrv x1), some (zrv x2), some (zrv x3), some (zrv x4), some (zI x5), none, none, none]) rfl rfl (zmS291_2349 hk16 _ _ _ _ _ _ _ _ _ H)
      · refine zA_brF (c := x58 = x36) rfl rfl rfl c59 ?_
        refine zA_push rfl rfl zkk7 ?_
        cases H
        exact zA_ret rfl (zret_Z (by decide))
    · cases H
      exact zA_callX (as := [zrv x2]) (st' := []) rfl rfl (zrcv_Q e53 c54) rfl (zmE137 _) rfl rfl rfl (zmS137 C)
  · cases H
    exact zA_callX (as := [zrv x2, zI (zi h35 p37 i38 j39), zI (zi h35 p44 i45 j46)]) (st' := []) rfl rfl (zrcv_Q e53 c54) rfl (zmE160 _ _ _) rfl rfl rfl (zmS160 C)
def zm291_374 (k16 : zq → zq → zq → zq → zq → Int32 → zH → zRs Int32) (x0 : zq) (x1 : zq) (x2 : zq) (x3 : zq) (x4 : zq) (x5 : Int32) (h : zH) : zRs Int32 :=
  zai x0 (x5 + (1 : Int32)) h fun p21 i22 j23 =>
  zai x0 (x5 + (2 : Int32)) h fun p28 i29 j30 =>
  zb2 (zm247 x1 (zi h p21 i22 j23) (zi h p28 i29 j30) x3 h) fun x36 h35 =>
  zai x0 (x5 + (1 : Int32)) h35 fun p37 i38 j39 =>
  zai x0 (x5 + (2 : Int32)) h35 fun p44 i45 j46 =>
  zob 12 x2 fun p51 i52 =>
  zb (zm158 x2 (zi h35 p37 i38 j39) (zi h35 p44 i45 j46) h35) fun x56 h55 =>
  zb (zm137 x2 h55) fun x58 h57 =>
  if x58 = x36 then
    if x36 = 0 then
      zar 3 x3 (0 : Int32) h57 fun p61 i62 j63 =>
      if (lg_cmp (zl h57 p61 i62 j63) (x56.toInt64)) = 0 then
        zm291_2349 k16 x0 x1 x2 x3 x4 x5 h57
      else
        some (.inl (0 : Int32), h57)
    else
      zm291_2349 k16 x0 x1 x2 x3 x4 x5 h57
  else
    some (.inl (0 : Int32), h57)
theorem zmS291_374 {k16 : zq → zq → zq → zq → zq → Int32 → zH → zRs Int32} (hk16 : ∀ (x0 : zq) (x1 : zq) (x2 : zq) (x3 : zq) (x4 : zq) (x5 : Int32) (h : zH) (r : Int32 ⊕ Nat) (h' : zH), k16 x0 x1 x2 x3 x4 x5 h = some (r, h') → zAt 291 16 [some (zrv x0), some (zrv x1), some (zrv x2), some (zrv x3), some (zrv x4), some (zI x5), none, none, none] [] h (zoI r) h') : ∀ (x0 : zq) (x1 : zq) (x2 : zq) (x3 : zq) (x4 : zq) (x5 : Int32) (h : zH) (r : Int32 ⊕ Nat) (h' : zH), zm291_374 k16 x0 x1 x2 x3 x4 x5 h = some (r, h') → zAt 291 374 [some (zrv x0), some (zrv x1), some (zrv x2), some (zrv x3), some (zrv x4), some (zI x5), none, none, none] [] h (zoI r) h' := by
  intro x0 x1 x2 x3 x4 x5 h r h' H
  unfold zm291_374 at H
  refine zA_aldn rfl rfl rfl ?_
  refine zA_aldn rfl rfl rfl ?_
  refine zA_ld rfl rfl rfl ?_
  refine zA_push rfl rfl zkk5 ?_
  refine zA_st (st' := [zI (x5 + (1 : Int32)), zrv x0, zrv x1]) rfl rfl rfl rfl ?_
  obtain ⟨p21, i22, j23, e24, c25, c26, e27, H⟩ := zai_e H
  refine zA_ial rfl rfl e24 c25 c26 e27 ?_
  refine zA_aldn rfl rfl rfl ?_
  refine zA_ld rfl rfl rfl ?_
  refine zA_push rfl rfl zkk23 ?_
  refine zA_st (st' := [zI (x5 + (2 : Int32)), zrv x0, zI (zi h p21 i22 j23), zrv x1]) rfl rfl rfl rfl ?_
  obtain ⟨p28, i29, j30, e31, c32, c33, e34, H⟩ := zai_e H
  refine zA_ial rfl rfl e31 c32 c33 e34 ?_
  refine zA_aldn rfl rfl rfl ?_
  obtain ⟨x36, h35, C, H⟩ := zb2_e H
  refine zA_callV (as := [zrv x1, zI (zi h p21 i22 j23), zI (zi h p28 i29 j30), zrv x3]) (st' := []) rfl rfl rfl rfl rfl (zmE247 _ _ _ _) rfl (zmS247 C) ?_
  refine zA_ist2 rfl rfl rfl (zset1 (L' := [some (zrv x0), some (zrv x1), some (zrv x2), some (zrv x3), some (zrv x4), some (zI x5), some (zI x36), none, none]) rfl rfl (zpcV rfl rfl)) ?_
  refine zA_aldn rfl rfl rfl ?_
  refine zA_aldn rfl rfl rfl ?_
  refine zA_ld rfl rfl rfl ?_
  refine zA_push rfl rfl zkk5 ?_
  refine zA_st (st' := [zI (x5 + (1 : Int32)), zrv x0, zrv x2]) rfl rfl rfl rfl ?_
  obtain ⟨p37, i38, j39, e40, c41, c42, e43, H⟩ := zai_e H
  refine zA_ial rfl rfl e40 c41 c42 e43 ?_
  refine zA_aldn rfl rfl rfl ?_
  refine zA_ld rfl rfl rfl ?_
  refine zA_push rfl rfl zkk23 ?_
  refine zA_st (st' := [zI (x5 + (2 : Int32)), zrv x0, zI (zi h35 p37 i38 j39), zrv x2]) rfl rfl rfl rfl ?_
  obtain ⟨p44, i45, j46, e47, c48, c49, e50, H⟩ := zai_e H
  refine zA_ial rfl rfl e47 c48 c49 e50 ?_
  obtain ⟨p51, i52, e53, c54, H⟩ := zob_e H
  rcases zb_e H with ⟨x56, h55, C, H⟩ | ⟨E, h55, C, H⟩
  · refine zA_callV (as := [zrv x2, zI (zi h35 p37 i38 j39), zI (zi h35 p44 i45 j46)]) (st' := []) rfl rfl rfl (zrcv_Q e53 c54) rfl (zmE158 _ _ _) rfl (zmS158 C) ?_
    refine zA_ist2 rfl rfl rfl (zset1 (L' := [some (zrv x0), some (zrv x1), some (zrv x2), some (zrv x3), some (zrv x4), some (zI x5), some (zI x36), some (zI x56), none]) rfl rfl (zpcV rfl rfl)) ?_
    refine zA_aldn rfl rfl rfl ?_
    rcases zb_e H with ⟨x58, h57, C, H⟩ | ⟨E, h57, C, H⟩
    · refine zA_callV (as := [zrv x2]) (st' := []) rfl rfl rfl (zrcv_Q e53 c54) rfl (zmE137 _) rfl (zmS137 C) ?_
      refine zA_ld rfl rfl rfl ?_
      rcases zite_e H with ⟨c59, H⟩ | ⟨c59, H⟩
      · refine zA_brT (c := x58 = x36) rfl rfl rfl c59 ?_
        refine zA_ld rfl rfl rfl ?_
        rcases zite_e H with ⟨c60, H⟩ | ⟨c60, H⟩
        · refine zA_brF' (c := x36 = 0) rfl rfl rfl c60 ?_
          refine zA_aldn rfl rfl rfl ?_
          refine zA_push rfl rfl zkk7 ?_
          obtain ⟨p61, i62, j63, e64, c65, c66, e67, H⟩ := zar_e H
          refine zA_lal rfl rfl e64 c65 c66 e67 ?_
          refine zA_ld rfl rfl rfl ?_
          refine zA_st (st' := [zJ (x56.toInt64), zJ (zl h57 p61 i62 j63)]) rfl rfl rfl rfl ?_
          refine zA_st (st' := [zI (lg_cmp (zl h57 p61 i62 j63) (x56.toInt64))]) rfl rfl rfl rfl ?_
          rcases zite_e H with ⟨c68, H⟩ | ⟨c68, H⟩
          · refine zA_brT (c := (lg_cmp (zl h57 p61 i62 j63) (x56.toInt64)) = 0) rfl rfl rfl c68 ?_
            refine zA_tr (L := [some (zrv x0), some (zrv x1), some (zrv x2), some (zrv x3), some (zrv x4), some (zI x5), none, none, none]) rfl rfl ?_
            refine zA_go rfl rfl ?_
            exact zA_tr (L := [some (zrv x0), some (zrv x1), some (zrv x2), some (zrv x3), some (zrv x4), some (zI x5), none, none, none]) rfl rfl (zmS291_2349 hk16 _ _ _ _ _ _ _ _ _ H)
          · refine zA_brF (c := (lg_cmp (zl h57 p61 i62 j63) (x56.toInt64)) = 0) rfl rfl rfl c68 ?_
            refine zA_push rfl rfl zkk7 ?_
            cases H
            exact zA_ret rfl (zret_Z (by decide))
        · refine zA_brT' (c := x36 = 0) rfl rfl rfl c60 ?_
          refine zA_tr (L := [some (zrv x0), some (zrv x1), some (zrv x2), some (zrv x3), some (zrv x4), some (zI x5), none, none, none]) rfl rfl ?_
          refine zA_go rfl rfl ?_
          exact zA_tr (L := [some (zrv x0), some (zrv x1), some (zrv x2), some (zrv x3), some (zrv x4), some (zI x5), none, none, none]) rfl rfl (zmS291_2349 hk16 _ _ _ _ _ _ _ _ _ H)
      · refine zA_brF (c := x58 = x36) rfl rfl rfl c59 ?_
        refine zA_push rfl rfl zkk7 ?_
        cases H
        exact zA_ret rfl (zret_Z (by decide))
    · cases H
      exact zA_callX (as := [zrv x2]) (st' := []) rfl rfl (zrcv_Q e53 c54) rfl (zmE137 _) rfl rfl rfl (zmS137 C)
  · cases H
    exact zA_callX (as := [zrv x2, zI (zi h35 p37 i38 j39), zI (zi h35 p44 i45 j46)]) (st' := []) rfl rfl (zrcv_Q e53 c54) rfl (zmE158 _ _ _) rfl rfl rfl (zmS158 C)
def zm291_309 (k16 : zq → zq → zq → zq → zq → Int32 → zH → zRs Int32) (x0 : zq) (x1 : zq) (x2 : zq) (x3 : zq) (x4 : zq) (x5 : Int32) (h : zH) : zRs Int32 :=
  zai x0 (x5 + (1 : Int32)) h fun p21 i22 j23 =>
  zai x0 (x5 + (2 : Int32)) h fun p28 i29 j30 =>
  zai x0 (x5 + (3 : Int32)) h fun p35 i36 j37 =>
  zai x0 (x5 + (4 : Int32)) h fun p42 i43 j44 =>
  zb2 (zm246 x1 (zi h p21 i22 j23) (zi h p28 i29 j30) (zi h p35 i36 j37) (zi h p42 i43 j44) x3 h) fun x50 h49 =>
  zai x0 (x5 + (1 : Int32)) h49 fun p51 i52 j53 =>
  zai x0 (x5 + (2 : Int32)) h49 fun p58 i59 j60 =>
  zai x0 (x5 + (3 : Int32)) h49 fun p65 i66 j67 =>
  zai x0 (x5 + (4 : Int32)) h49 fun p72 i73 j74 =>
  zob 12 x2 fun p79 i80 =>
  zb (zm155 x2 (zi h49 p51 i52 j53) (zi h49 p58 i59 j60) (zi h49 p65 i66 j67) (zi h49 p72 i73 j74) h49) fun x84 h83 =>
  zb (zm137 x2 h83) fun x86 h85 =>
  if x86 = x50 then
    if x50 = 0 then
      zar 3 x3 (0 : Int32) h85 fun p89 i90 j91 =>
      if (lg_cmp (zl h85 p89 i90 j91) (x84.toInt64)) = 0 then
        zm291_2349 k16 x0 x1 x2 x3 x4 x5 h85
      else
        some (.inl (0 : Int32), h85)
    else
      zm291_2349 k16 x0 x1 x2 x3 x4 x5 h85
  else
    some (.inl (0 : Int32), h85)
theorem zmS291_309 {k16 : zq → zq → zq → zq → zq → Int32 → zH → zRs Int32} (hk16 : ∀ (x0 : zq) (x1 : zq) (x2 : zq) (x3 : zq) (x4 : zq) (x5 : Int32) (h : zH) (r : Int32 ⊕ Nat) (h' : zH), k16 x0 x1 x2 x3 x4 x5 h = some (r, h') → zAt 291 16 [some (zrv x0), some (zrv x1), some (zrv x2), some (zrv x3), some (zrv x4), some (zI x5), none, none, none] [] h (zoI r) h') : ∀ (x0 : zq) (x1 : zq) (x2 : zq) (x3 : zq) (x4 : zq) (x5 : Int32) (h : zH) (r : Int32 ⊕ Nat) (h' : zH), zm291_309 k16 x0 x1 x2 x3 x4 x5 h = some (r, h') → zAt 291 309 [some (zrv x0), some (zrv x1), some (zrv x2), some (zrv x3), some (zrv x4), some (zI x5), none, none, none] [] h (zoI r) h' := by
  intro x0 x1 x2 x3 x4 x5 h r h' H
  unfold zm291_309 at H
  refine zA_aldn rfl rfl rfl ?_
  refine zA_aldn rfl rfl rfl ?_
  refine zA_ld rfl rfl rfl ?_
  refine zA_push rfl rfl zkk5 ?_
  refine zA_st (st' := [zI (x5 + (1 : Int32)), zrv x0, zrv x1]) rfl rfl rfl rfl ?_
  obtain ⟨p21, i22, j23, e24, c25, c26, e27, H⟩ := zai_e H
  refine zA_ial rfl rfl e24 c25 c26 e27 ?_
  refine zA_aldn rfl rfl rfl ?_
  refine zA_ld rfl rfl rfl ?_
  refine zA_push rfl rfl zkk23 ?_
  refine zA_st (st' := [zI (x5 + (2 : Int32)), zrv x0, zI (zi h p21 i22 j23), zrv x1]) rfl rfl rfl rfl ?_
  obtain ⟨p28, i29, j30, e31, c32, c33, e34, H⟩ := zai_e H
  refine zA_ial rfl rfl e31 c32 c33 e34 ?_
  refine zA_aldn rfl rfl rfl ?_
  refine zA_ld rfl rfl rfl ?_
  refine zA_push rfl rfl zkk3 ?_
  refine zA_st (st' := [zI (x5 + (3 : Int32)), zrv x0, zI (zi h p28 i29 j30), zI (zi h p21 i22 j23), zrv x1]) rfl rfl rfl rfl ?_
  obtain ⟨p35, i36, j37, e38, c39, c40, e41, H⟩ := zai_e H
  refine zA_ial rfl rfl e38 c39 c40 e41 ?_
  refine zA_aldn rfl rfl rfl ?_
  refine zA_ld rfl rfl rfl ?_
  refine zA_push rfl rfl zkk9 ?_
  refine zA_st (st' := [zI (x5 + (4 : Int32)), zrv x0, zI (zi h p35 i36 j37), zI (zi h p28 i29 j30), zI (zi h p21 i22 j23), zrv x1]) rfl rfl rfl rfl ?_
  obtain ⟨p42, i43, j44, e45, c46, c47, e48, H⟩ := zai_e H
  refine zA_ial rfl rfl e45 c46 c47 e48 ?_
  refine zA_aldn rfl rfl rfl ?_
  obtain ⟨x50, h49, C, H⟩ := zb2_e H
  refine zA_callV (as := [zrv x1, zI (zi h p21 i22 j23), zI (zi h p28 i29 j30), zI (zi h p35 i36 j37), zI (zi h p42 i43 j44), zrv x3]) (st' := []) rfl rfl rfl rfl rfl (zmE246 _ _ _ _ _ _) rfl (zmS246 C) ?_
  refine zA_ist2 rfl rfl rfl (zset1 (L' := [some (zrv x0), some (zrv x1), some (zrv x2), some (zrv x3), some (zrv x4), some (zI x5), some (zI x50), none, none]) rfl rfl (zpcV rfl rfl)) ?_
  refine zA_aldn rfl rfl rfl ?_
  refine zA_aldn rfl rfl rfl ?_
  refine zA_ld rfl rfl rfl ?_
  refine zA_push rfl rfl zkk5 ?_
  refine zA_st (st' := [zI (x5 + (1 : Int32)), zrv x0, zrv x2]) rfl rfl rfl rfl ?_
  obtain ⟨p51, i52, j53, e54, c55, c56, e57, H⟩ := zai_e H
  refine zA_ial rfl rfl e54 c55 c56 e57 ?_
  refine zA_aldn rfl rfl rfl ?_
  refine zA_ld rfl rfl rfl ?_
  refine zA_push rfl rfl zkk23 ?_
  refine zA_st (st' := [zI (x5 + (2 : Int32)), zrv x0, zI (zi h49 p51 i52 j53), zrv x2]) rfl rfl rfl rfl ?_
  obtain ⟨p58, i59, j60, e61, c62, c63, e64, H⟩ := zai_e H
  refine zA_ial rfl rfl e61 c62 c63 e64 ?_
  refine zA_aldn rfl rfl rfl ?_
  refine zA_ld rfl rfl rfl ?_
  refine zA_push rfl rfl zkk3 ?_
  refine zA_st (st' := [zI (x5 + (3 : Int32)), zrv x0, zI (zi h49 p58 i59 j60), zI (zi h49 p51 i52 j53), zrv x2]) rfl rfl rfl rfl ?_
  obtain ⟨p65, i66, j67, e68, c69, c70, e71, H⟩ := zai_e H
  refine zA_ial rfl rfl e68 c69 c70 e71 ?_
  refine zA_aldn rfl rfl rfl ?_
  refine zA_ld rfl rfl rfl ?_
  refine zA_push rfl rfl zkk9 ?_
  refine zA_st (st' := [zI (x5 + (4 : Int32)), zrv x0, zI (zi h49 p65 i66 j67), zI (zi h49 p58 i59 j60), zI (zi h49 p51 i52 j53), zrv x2]) rfl rfl rfl rfl ?_
  obtain ⟨p72, i73, j74, e75, c76, c77, e78, H⟩ := zai_e H
  refine zA_ial rfl rfl e75 c76 c77 e78 ?_
  obtain ⟨p79, i80, e81, c82, H⟩ := zob_e H
  rcases zb_e H with ⟨x84, h83, C, H⟩ | ⟨E, h83, C, H⟩
  · refine zA_callV (as := [zrv x2, zI (zi h49 p51 i52 j53), zI (zi h49 p58 i59 j60), zI (zi h49 p65 i66 j67), zI (zi h49 p72 i73 j74)]) (st' := []) rfl rfl rfl (zrcv_Q e81 c82) rfl (zmE155 _ _ _ _ _) rfl (zmS155 C) ?_
    refine zA_ist2 rfl rfl rfl (zset1 (L' := [some (zrv x0), some (zrv x1), some (zrv x2), some (zrv x3), some (zrv x4), some (zI x5), some (zI x50), some (zI x84), none]) rfl rfl (zpcV rfl rfl)) ?_
    refine zA_aldn rfl rfl rfl ?_
    rcases zb_e H with ⟨x86, h85, C, H⟩ | ⟨E, h85, C, H⟩
    · refine zA_callV (as := [zrv x2]) (st' := []) rfl rfl rfl (zrcv_Q e81 c82) rfl (zmE137 _) rfl (zmS137 C) ?_
      refine zA_ld rfl rfl rfl ?_
      rcases zite_e H with ⟨c87, H⟩ | ⟨c87, H⟩
      · refine zA_brT (c := x86 = x50) rfl rfl rfl c87 ?_
        refine zA_ld rfl rfl rfl ?_
        rcases zite_e H with ⟨c88, H⟩ | ⟨c88, H⟩
        · refine zA_brF' (c := x50 = 0) rfl rfl rfl c88 ?_
          refine zA_aldn rfl rfl rfl ?_
          refine zA_push rfl rfl zkk7 ?_
          obtain ⟨p89, i90, j91, e92, c93, c94, e95, H⟩ := zar_e H
          refine zA_lal rfl rfl e92 c93 c94 e95 ?_
          refine zA_ld rfl rfl rfl ?_
          refine zA_st (st' := [zJ (x84.toInt64), zJ (zl h85 p89 i90 j91)]) rfl rfl rfl rfl ?_
          refine zA_st (st' := [zI (lg_cmp (zl h85 p89 i90 j91) (x84.toInt64))]) rfl rfl rfl rfl ?_
          rcases zite_e H with ⟨c96, H⟩ | ⟨c96, H⟩
          · refine zA_brT (c := (lg_cmp (zl h85 p89 i90 j91) (x84.toInt64)) = 0) rfl rfl rfl c96 ?_
            refine zA_tr (L := [some (zrv x0), some (zrv x1), some (zrv x2), some (zrv x3), some (zrv x4), some (zI x5), none, none, none]) rfl rfl ?_
            refine zA_go rfl rfl ?_
            exact zA_tr (L := [some (zrv x0), some (zrv x1), some (zrv x2), some (zrv x3), some (zrv x4), some (zI x5), none, none, none]) rfl rfl (zmS291_2349 hk16 _ _ _ _ _ _ _ _ _ H)
          · refine zA_brF (c := (lg_cmp (zl h85 p89 i90 j91) (x84.toInt64)) = 0) rfl rfl rfl c96 ?_
            refine zA_push rfl rfl zkk7 ?_
            cases H
            exact zA_ret rfl (zret_Z (by decide))
        · refine zA_brT' (c := x50 = 0) rfl rfl rfl c88 ?_
          refine zA_tr (L := [some (zrv x0), some (zrv x1), some (zrv x2), some (zrv x3), some (zrv x4), some (zI x5), none, none, none]) rfl rfl ?_
          refine zA_go rfl rfl ?_
          exact zA_tr (L := [some (zrv x0), some (zrv x1), some (zrv x2), some (zrv x3), some (zrv x4), some (zI x5), none, none, none]) rfl rfl (zmS291_2349 hk16 _ _ _ _ _ _ _ _ _ H)
      · refine zA_brF (c := x86 = x50) rfl rfl rfl c87 ?_
        refine zA_push rfl rfl zkk7 ?_
        cases H
        exact zA_ret rfl (zret_Z (by decide))
    · cases H
      exact zA_callX (as := [zrv x2]) (st' := []) rfl rfl (zrcv_Q e81 c82) rfl (zmE137 _) rfl rfl rfl (zmS137 C)
  · cases H
    exact zA_callX (as := [zrv x2, zI (zi h49 p51 i52 j53), zI (zi h49 p58 i59 j60), zI (zi h49 p65 i66 j67), zI (zi h49 p72 i73 j74)]) (st' := []) rfl rfl (zrcv_Q e81 c82) rfl (zmE155 _ _ _ _ _) rfl rfl rfl (zmS155 C)
def zm291_284 (k16 : zq → zq → zq → zq → zq → Int32 → zH → zRs Int32) (x0 : zq) (x1 : zq) (x2 : zq) (x3 : zq) (x4 : zq) (x5 : Int32) (h : zH) : zRs Int32 :=
  zb2 (zm245 x1 x3 h) fun x22 h21 =>
  zob 12 x2 fun p23 i24 =>
  zb (zm154 x2 h21) fun x28 h27 =>
  zb (zm137 x2 h27) fun x30 h29 =>
  if x30 = x22 then
    if x22 = 0 then
      zar 3 x3 (0 : Int32) h29 fun p33 i34 j35 =>
      if (lg_cmp (zl h29 p33 i34 j35) (x28.toInt64)) = 0 then
        zm291_2349 k16 x0 x1 x2 x3 x4 x5 h29
      else
        some (.inl (0 : Int32), h29)
    else
      zm291_2349 k16 x0 x1 x2 x3 x4 x5 h29
  else
    some (.inl (0 : Int32), h29)
theorem zmS291_284 {k16 : zq → zq → zq → zq → zq → Int32 → zH → zRs Int32} (hk16 : ∀ (x0 : zq) (x1 : zq) (x2 : zq) (x3 : zq) (x4 : zq) (x5 : Int32) (h : zH) (r : Int32 ⊕ Nat) (h' : zH), k16 x0 x1 x2 x3 x4 x5 h = some (r, h') → zAt 291 16 [some (zrv x0), some (zrv x1), some (zrv x2), some (zrv x3), some (zrv x4), some (zI x5), none, none, none] [] h (zoI r) h') : ∀ (x0 : zq) (x1 : zq) (x2 : zq) (x3 : zq) (x4 : zq) (x5 : Int32) (h : zH) (r : Int32 ⊕ Nat) (h' : zH), zm291_284 k16 x0 x1 x2 x3 x4 x5 h = some (r, h') → zAt 291 284 [some (zrv x0), some (zrv x1), some (zrv x2), some (zrv x3), some (zrv x4), some (zI x5), none, none, none] [] h (zoI r) h' := by
  intro x0 x1 x2 x3 x4 x5 h r h' H
  unfold zm291_284 at H
  refine zA_aldn rfl rfl rfl ?_
  refine zA_aldn rfl rfl rfl ?_
  obtain ⟨x22, h21, C, H⟩ := zb2_e H
  refine zA_callV (as := [zrv x1, zrv x3]) (st' := []) rfl rfl rfl rfl rfl (zmE245 _ _) rfl (zmS245 C) ?_
  refine zA_ist2 rfl rfl rfl (zset1 (L' := [some (zrv x0), some (zrv x1), some (zrv x2), some (zrv x3), some (zrv x4), some (zI x5), some (zI x22), none, none]) rfl rfl (zpcV rfl rfl)) ?_
  refine zA_aldn rfl rfl rfl ?_
  obtain ⟨p23, i24, e25, c26, H⟩ := zob_e H
  rcases zb_e H with ⟨x28, h27, C, H⟩ | ⟨E, h27, C, H⟩
  · refine zA_callV (as := [zrv x2]) (st' := []) rfl rfl rfl (zrcv_Q e25 c26) rfl (zmE154 _) rfl (zmS154 C) ?_
    refine zA_ist2 rfl rfl rfl (zset1 (L' := [some (zrv x0), some (zrv x1), some (zrv x2), some (zrv x3), some (zrv x4), some (zI x5), some (zI x22), some (zI x28), none]) rfl rfl (zpcV rfl rfl)) ?_
    refine zA_aldn rfl rfl rfl ?_
    rcases zb_e H with ⟨x30, h29, C, H⟩ | ⟨E, h29, C, H⟩
    · refine zA_callV (as := [zrv x2]) (st' := []) rfl rfl rfl (zrcv_Q e25 c26) rfl (zmE137 _) rfl (zmS137 C) ?_
      refine zA_ld rfl rfl rfl ?_
      rcases zite_e H with ⟨c31, H⟩ | ⟨c31, H⟩
      · refine zA_brT (c := x30 = x22) rfl rfl rfl c31 ?_
        refine zA_ld rfl rfl rfl ?_
        rcases zite_e H with ⟨c32, H⟩ | ⟨c32, H⟩
        · refine zA_brF' (c := x22 = 0) rfl rfl rfl c32 ?_
          refine zA_aldn rfl rfl rfl ?_
          refine zA_push rfl rfl zkk7 ?_
          obtain ⟨p33, i34, j35, e36, c37, c38, e39, H⟩ := zar_e H
          refine zA_lal rfl rfl e36 c37 c38 e39 ?_
          refine zA_ld rfl rfl rfl ?_
          refine zA_st (st' := [zJ (x28.toInt64), zJ (zl h29 p33 i34 j35)]) rfl rfl rfl rfl ?_
          refine zA_st (st' := [zI (lg_cmp (zl h29 p33 i34 j35) (x28.toInt64))]) rfl rfl rfl rfl ?_
          rcases zite_e H with ⟨c40, H⟩ | ⟨c40, H⟩
          · refine zA_brT (c := (lg_cmp (zl h29 p33 i34 j35) (x28.toInt64)) = 0) rfl rfl rfl c40 ?_
            refine zA_tr (L := [some (zrv x0), some (zrv x1), some (zrv x2), some (zrv x3), some (zrv x4), some (zI x5), none, none, none]) rfl rfl ?_
            refine zA_go rfl rfl ?_
            exact zA_tr (L := [some (zrv x0), some (zrv x1), some (zrv x2), some (zrv x3), some (zrv x4), some (zI x5), none, none, none]) rfl rfl (zmS291_2349 hk16 _ _ _ _ _ _ _ _ _ H)
          · refine zA_brF (c := (lg_cmp (zl h29 p33 i34 j35) (x28.toInt64)) = 0) rfl rfl rfl c40 ?_
            refine zA_push rfl rfl zkk7 ?_
            cases H
            exact zA_ret rfl (zret_Z (by decide))
        · refine zA_brT' (c := x22 = 0) rfl rfl rfl c32 ?_
          refine zA_tr (L := [some (zrv x0), some (zrv x1), some (zrv x2), some (zrv x3), some (zrv x4), some (zI x5), none, none, none]) rfl rfl ?_
          refine zA_go rfl rfl ?_
          exact zA_tr (L := [some (zrv x0), some (zrv x1), some (zrv x2), some (zrv x3), some (zrv x4), some (zI x5), none, none, none]) rfl rfl (zmS291_2349 hk16 _ _ _ _ _ _ _ _ _ H)
      · refine zA_brF (c := x30 = x22) rfl rfl rfl c31 ?_
        refine zA_push rfl rfl zkk7 ?_
        cases H
        exact zA_ret rfl (zret_Z (by decide))
    · cases H
      exact zA_callX (as := [zrv x2]) (st' := []) rfl rfl (zrcv_Q e25 c26) rfl (zmE137 _) rfl rfl rfl (zmS137 C)
  · cases H
    exact zA_callX (as := [zrv x2]) (st' := []) rfl rfl (zrcv_Q e25 c26) rfl (zmE154 _) rfl rfl rfl (zmS154 C)
def zm291_277 (k16 : zq → zq → zq → zq → zq → Int32 → zH → zRs Int32) (x0 : zq) (x1 : zq) (x2 : zq) (x3 : zq) (x4 : zq) (x5 : Int32) (h : zH) : zRs Int32 :=
  zob 11 x1 fun p21 i22 =>
  zb (zm48 x1 h) fun x26 h25 =>
  zob 12 x2 fun p27 i28 =>
  zb (zm153 x2 h25) fun x32 h31 =>
  if x26 = x32 then
    zm291_2349 k16 x0 x1 x2 x3 x4 x5 h31
  else
    some (.inl (0 : Int32), h31)
theorem zmS291_277 {k16 : zq → zq → zq → zq → zq → Int32 → zH → zRs Int32} (hk16 : ∀ (x0 : zq) (x1 : zq) (x2 : zq) (x3 : zq) (x4 : zq) (x5 : Int32) (h : zH) (r : Int32 ⊕ Nat) (h' : zH), k16 x0 x1 x2 x3 x4 x5 h = some (r, h') → zAt 291 16 [some (zrv x0), some (zrv x1), some (zrv x2), some (zrv x3), some (zrv x4), some (zI x5), none, none, none] [] h (zoI r) h') : ∀ (x0 : zq) (x1 : zq) (x2 : zq) (x3 : zq) (x4 : zq) (x5 : Int32) (h : zH) (r : Int32 ⊕ Nat) (h' : zH), zm291_277 k16 x0 x1 x2 x3 x4 x5 h = some (r, h') → zAt 291 277 [some (zrv x0), some (zrv x1), some (zrv x2), some (zrv x3), some (zrv x4), some (zI x5), none, none, none] [] h (zoI r) h' := by
  intro x0 x1 x2 x3 x4 x5 h r h' H
  unfold zm291_277 at H
  refine zA_aldn rfl rfl rfl ?_
  obtain ⟨p21, i22, e23, c24, H⟩ := zob_e H
  rcases zb_e H with ⟨x26, h25, C, H⟩ | ⟨E, h25, C, H⟩
  · refine zA_callV (as := [zrv x1]) (st' := []) rfl rfl rfl (zrcv_Q e23 c24) rfl (zmE48 _) rfl (zmS48 C) ?_
    refine zA_aldn rfl rfl rfl ?_
    obtain ⟨p27, i28, e29, c30, H⟩ := zob_e H
    rcases zb_e H with ⟨x32, h31, C, H⟩ | ⟨E, h31, C, H⟩
    · refine zA_callV (as := [zrv x2]) (st' := [zI x26]) rfl rfl rfl (zrcv_Q e29 c30) rfl (zmE153 _) rfl (zmS153 C) ?_
      rcases zite_e H with ⟨c33, H⟩ | ⟨c33, H⟩
      · refine zA_brT (c := x26 = x32) rfl rfl rfl c33 ?_
        exact zA_tr (L := [some (zrv x0), some (zrv x1), some (zrv x2), some (zrv x3), some (zrv x4), some (zI x5), none, none, none]) rfl rfl (zmS291_2349 hk16 _ _ _ _ _ _ _ _ _ H)
      · refine zA_brF (c := x26 = x32) rfl rfl rfl c33 ?_
        refine zA_push rfl rfl zkk7 ?_
        cases H
        exact zA_ret rfl (zret_Z (by decide))
    · cases H
      exact zA_callX (as := [zrv x2]) (st' := [zI x26]) rfl rfl (zrcv_Q e29 c30) rfl (zmE153 _) rfl rfl rfl (zmS153 C)
  · cases H
    exact zA_callX (as := [zrv x1]) (st' := []) rfl rfl (zrcv_Q e23 c24) rfl (zmE48 _) rfl rfl rfl (zmS48 C)
def zm291_242 (k16 : zq → zq → zq → zq → zq → Int32 → zH → zRs Int32) (x0 : zq) (x1 : zq) (x2 : zq) (x3 : zq) (x4 : zq) (x5 : Int32) (h : zH) : zRs Int32 :=
  zai x0 (x5 + (1 : Int32)) h fun p21 i22 j23 =>
  zb2 (zm244 x1 (zi h p21 i22 j23) x3 h) fun x29 h28 =>
  zai x0 (x5 + (1 : Int32)) h28 fun p30 i31 j32 =>
  zob 12 x2 fun p37 i38 =>
  zb (zm152 x2 (zi h28 p30 i31 j32) h28) fun x42 h41 =>
  zb (zm137 x2 h41) fun x44 h43 =>
  if x44 = x29 then
    if x29 = 0 then
      zar 3 x3 (0 : Int32) h43 fun p47 i48 j49 =>
      if (lg_cmp (zl h43 p47 i48 j49) (x42.toInt64)) = 0 then
        zm291_2349 k16 x0 x1 x2 x3 x4 x5 h43
      else
        some (.inl (0 : Int32), h43)
    else
      zm291_2349 k16 x0 x1 x2 x3 x4 x5 h43
  else
    some (.inl (0 : Int32), h43)
theorem zmS291_242 {k16 : zq → zq → zq → zq → zq → Int32 → zH → zRs Int32} (hk16 : ∀ (x0 : zq) (x1 : zq) (x2 : zq) (x3 : zq) (x4 : zq) (x5 : Int32) (h : zH) (r : Int32 ⊕ Nat) (h' : zH), k16 x0 x1 x2 x3 x4 x5 h = some (r, h') → zAt 291 16 [some (zrv x0), some (zrv x1), some (zrv x2), some (zrv x3), some (zrv x4), some (zI x5), none, none, none] [] h (zoI r) h') : ∀ (x0 : zq) (x1 : zq) (x2 : zq) (x3 : zq) (x4 : zq) (x5 : Int32) (h : zH) (r : Int32 ⊕ Nat) (h' : zH), zm291_242 k16 x0 x1 x2 x3 x4 x5 h = some (r, h') → zAt 291 242 [some (zrv x0), some (zrv x1), some (zrv x2), some (zrv x3), some (zrv x4), some (zI x5), none, none, none] [] h (zoI r) h' := by
  intro x0 x1 x2 x3 x4 x5 h r h' H
  unfold zm291_242 at H
  refine zA_aldn rfl rfl rfl ?_
  refine zA_aldn rfl rfl rfl ?_
  refine zA_ld rfl rfl rfl ?_
  refine zA_push rfl rfl zkk5 ?_
  refine zA_st (st' := [zI (x5 + (1 : Int32)), zrv x0, zrv x1]) rfl rfl rfl rfl ?_
  obtain ⟨p21, i22, j23, e24, c25, c26, e27, H⟩ := zai_e H
  refine zA_ial rfl rfl e24 c25 c26 e27 ?_
  refine zA_aldn rfl rfl rfl ?_
  obtain ⟨x29, h28, C, H⟩ := zb2_e H
  refine zA_callV (as := [zrv x1, zI (zi h p21 i22 j23), zrv x3]) (st' := []) rfl rfl rfl rfl rfl (zmE244 _ _ _) rfl (zmS244 C) ?_
  refine zA_ist2 rfl rfl rfl (zset1 (L' := [some (zrv x0), some (zrv x1), some (zrv x2), some (zrv x3), some (zrv x4), some (zI x5), some (zI x29), none, none]) rfl rfl (zpcV rfl rfl)) ?_
  refine zA_aldn rfl rfl rfl ?_
  refine zA_aldn rfl rfl rfl ?_
  refine zA_ld rfl rfl rfl ?_
  refine zA_push rfl rfl zkk5 ?_
  refine zA_st (st' := [zI (x5 + (1 : Int32)), zrv x0, zrv x2]) rfl rfl rfl rfl ?_
  obtain ⟨p30, i31, j32, e33, c34, c35, e36, H⟩ := zai_e H
  refine zA_ial rfl rfl e33 c34 c35 e36 ?_
  obtain ⟨p37, i38, e39, c40, H⟩ := zob_e H
  rcases zb_e H with ⟨x42, h41, C, H⟩ | ⟨E, h41, C, H⟩
  · refine zA_callV (as := [zrv x2, zI (zi h28 p30 i31 j32)]) (st' := []) rfl rfl rfl (zrcv_Q e39 c40) rfl (zmE152 _ _) rfl (zmS152 C) ?_
    refine zA_ist2 rfl rfl rfl (zset1 (L' := [some (zrv x0), some (zrv x1), some (zrv x2), some (zrv x3), some (zrv x4), some (zI x5), some (zI x29), some (zI x42), none]) rfl rfl (zpcV rfl rfl)) ?_
    refine zA_aldn rfl rfl rfl ?_
    rcases zb_e H with ⟨x44, h43, C, H⟩ | ⟨E, h43, C, H⟩
    · refine zA_callV (as := [zrv x2]) (st' := []) rfl rfl rfl (zrcv_Q e39 c40) rfl (zmE137 _) rfl (zmS137 C) ?_
      refine zA_ld rfl rfl rfl ?_
      rcases zite_e H with ⟨c45, H⟩ | ⟨c45, H⟩
      · refine zA_brT (c := x44 = x29) rfl rfl rfl c45 ?_
        refine zA_ld rfl rfl rfl ?_
        rcases zite_e H with ⟨c46, H⟩ | ⟨c46, H⟩
        · refine zA_brF' (c := x29 = 0) rfl rfl rfl c46 ?_
          refine zA_aldn rfl rfl rfl ?_
          refine zA_push rfl rfl zkk7 ?_
          obtain ⟨p47, i48, j49, e50, c51, c52, e53, H⟩ := zar_e H
          refine zA_lal rfl rfl e50 c51 c52 e53 ?_
          refine zA_ld rfl rfl rfl ?_
          refine zA_st (st' := [zJ (x42.toInt64), zJ (zl h43 p47 i48 j49)]) rfl rfl rfl rfl ?_
          refine zA_st (st' := [zI (lg_cmp (zl h43 p47 i48 j49) (x42.toInt64))]) rfl rfl rfl rfl ?_
          rcases zite_e H with ⟨c54, H⟩ | ⟨c54, H⟩
          · refine zA_brT (c := (lg_cmp (zl h43 p47 i48 j49) (x42.toInt64)) = 0) rfl rfl rfl c54 ?_
            refine zA_tr (L := [some (zrv x0), some (zrv x1), some (zrv x2), some (zrv x3), some (zrv x4), some (zI x5), none, none, none]) rfl rfl ?_
            refine zA_go rfl rfl ?_
            exact zA_tr (L := [some (zrv x0), some (zrv x1), some (zrv x2), some (zrv x3), some (zrv x4), some (zI x5), none, none, none]) rfl rfl (zmS291_2349 hk16 _ _ _ _ _ _ _ _ _ H)
          · refine zA_brF (c := (lg_cmp (zl h43 p47 i48 j49) (x42.toInt64)) = 0) rfl rfl rfl c54 ?_
            refine zA_push rfl rfl zkk7 ?_
            cases H
            exact zA_ret rfl (zret_Z (by decide))
        · refine zA_brT' (c := x29 = 0) rfl rfl rfl c46 ?_
          refine zA_tr (L := [some (zrv x0), some (zrv x1), some (zrv x2), some (zrv x3), some (zrv x4), some (zI x5), none, none, none]) rfl rfl ?_
          refine zA_go rfl rfl ?_
          exact zA_tr (L := [some (zrv x0), some (zrv x1), some (zrv x2), some (zrv x3), some (zrv x4), some (zI x5), none, none, none]) rfl rfl (zmS291_2349 hk16 _ _ _ _ _ _ _ _ _ H)
      · refine zA_brF (c := x44 = x29) rfl rfl rfl c45 ?_
        refine zA_push rfl rfl zkk7 ?_
        cases H
        exact zA_ret rfl (zret_Z (by decide))
    · cases H
      exact zA_callX (as := [zrv x2]) (st' := []) rfl rfl (zrcv_Q e39 c40) rfl (zmE137 _) rfl rfl rfl (zmS137 C)
  · cases H
    exact zA_callX (as := [zrv x2, zI (zi h28 p30 i31 j32)]) (st' := []) rfl rfl (zrcv_Q e39 c40) rfl (zmE152 _ _) rfl rfl rfl (zmS152 C)
def zm291_237 (k16 : zq → zq → zq → zq → zq → Int32 → zH → zRs Int32) (x0 : zq) (x1 : zq) (x2 : zq) (x3 : zq) (x4 : zq) (x5 : Int32) (s0 : Int64) (s1 : Int64) (h : zH) : zRs Int32 :=
  if (lg_cmp s0 s1) = 0 then
    zm291_2349 k16 x0 x1 x2 x3 x4 x5 h
  else
    some (.inl (0 : Int32), h)
theorem zmS291_237 {k16 : zq → zq → zq → zq → zq → Int32 → zH → zRs Int32} (hk16 : ∀ (x0 : zq) (x1 : zq) (x2 : zq) (x3 : zq) (x4 : zq) (x5 : Int32) (h : zH) (r : Int32 ⊕ Nat) (h' : zH), k16 x0 x1 x2 x3 x4 x5 h = some (r, h') → zAt 291 16 [some (zrv x0), some (zrv x1), some (zrv x2), some (zrv x3), some (zrv x4), some (zI x5), none, none, none] [] h (zoI r) h') : ∀ (x0 : zq) (x1 : zq) (x2 : zq) (x3 : zq) (x4 : zq) (x5 : Int32) (s0 : Int64) (s1 : Int64) (h : zH) (r : Int32 ⊕ Nat) (h' : zH), zm291_237 k16 x0 x1 x2 x3 x4 x5 s0 s1 h = some (r, h') → zAt 291 237 [some (zrv x0), some (zrv x1), some (zrv x2), some (zrv x3), some (zrv x4), some (zI x5), none, none, none] [zJ s1, zJ s0] h (zoI r) h' := by
  intro x0 x1 x2 x3 x4 x5 s0 s1 h r h' H
  unfold zm291_237 at H
  refine zA_st (st' := [zI (lg_cmp s0 s1)]) rfl rfl rfl rfl ?_
  rcases zite_e H with ⟨c21, H⟩ | ⟨c21, H⟩
  · refine zA_brT (c := (lg_cmp s0 s1) = 0) rfl rfl rfl c21 ?_
    refine zA_go rfl rfl ?_
    exact zA_tr (L := [some (zrv x0), some (zrv x1), some (zrv x2), some (zrv x3), some (zrv x4), some (zI x5), none, none, none]) rfl rfl (zmS291_2349 hk16 _ _ _ _ _ _ _ _ _ H)
  · refine zA_brF (c := (lg_cmp s0 s1) = 0) rfl rfl rfl c21 ?_
    refine zA_push rfl rfl zkk7 ?_
    cases H
    exact zA_ret rfl (zret_Z (by decide))
def zm291_204 (k16 : zq → zq → zq → zq → zq → Int32 → zH → zRs Int32) (x0 : zq) (x1 : zq) (x2 : zq) (x3 : zq) (x4 : zq) (x5 : Int32) (h : zH) : zRs Int32 :=
  zai x0 (x5 + (1 : Int32)) h fun p21 i22 j23 =>
  zb2 (zm243 x1 (zi h p21 i22 j23) x3 h) fun x29 h28 =>
  zai x0 (x5 + (1 : Int32)) h28 fun p30 i31 j32 =>
  zob 12 x2 fun p37 i38 =>
  zb (zm149 x2 (zi h28 p30 i31 j32) h28) fun x42 h41 =>
  zb (zm137 x2 h41) fun x44 h43 =>
  if x44 = x29 then
    if x29 = 0 then
      zar 3 x3 (0 : Int32) h43 fun p47 i48 j49 =>
      if x42 = 0 then
        zm291_237 k16 x0 x1 x2 x3 x4 x5 (zl h43 p47 i48 j49) (0 : Int64) h43
      else
        zm291_237 k16 x0 x1 x2 x3 x4 x5 (zl h43 p47 i48 j49) (1 : Int64) h43
    else
      zm291_2349 k16 x0 x1 x2 x3 x4 x5 h43
  else
    some (.inl (0 : Int32), h43)
theorem zmS291_204 {k16 : zq → zq → zq → zq → zq → Int32 → zH → zRs Int32} (hk16 : ∀ (x0 : zq) (x1 : zq) (x2 : zq) (x3 : zq) (x4 : zq) (x5 : Int32) (h : zH) (r : Int32 ⊕ Nat) (h' : zH), k16 x0 x1 x2 x3 x4 x5 h = some (r, h') → zAt 291 16 [some (zrv x0), some (zrv x1), some (zrv x2), some (zrv x3), some (zrv x4), some (zI x5), none, none, none] [] h (zoI r) h') : ∀ (x0 : zq) (x1 : zq) (x2 : zq) (x3 : zq) (x4 : zq) (x5 : Int32) (h : zH) (r : Int32 ⊕ Nat) (h' : zH), zm291_204 k16 x0 x1 x2 x3 x4 x5 h = some (r, h') → zAt 291 204 [some (zrv x0), some (zrv x1), some (zrv x2), some (zrv x3), some (zrv x4), some (zI x5), none, none, none] [] h (zoI r) h' := by
  intro x0 x1 x2 x3 x4 x5 h r h' H
  unfold zm291_204 at H
  refine zA_aldn rfl rfl rfl ?_
  refine zA_aldn rfl rfl rfl ?_
  refine zA_ld rfl rfl rfl ?_
  refine zA_push rfl rfl zkk5 ?_
  refine zA_st (st' := [zI (x5 + (1 : Int32)), zrv x0, zrv x1]) rfl rfl rfl rfl ?_
  obtain ⟨p21, i22, j23, e24, c25, c26, e27, H⟩ := zai_e H
  refine zA_ial rfl rfl e24 c25 c26 e27 ?_
  refine zA_aldn rfl rfl rfl ?_
  obtain ⟨x29, h28, C, H⟩ := zb2_e H
  refine zA_callV (as := [zrv x1, zI (zi h p21 i22 j23), zrv x3]) (st' := []) rfl rfl rfl rfl rfl (zmE243 _ _ _) rfl (zmS243 C) ?_
  refine zA_ist2 rfl rfl rfl (zset1 (L' := [some (zrv x0), some (zrv x1), some (zrv x2), some (zrv x3), some (zrv x4), some (zI x5), some (zI x29), none, none]) rfl rfl (zpcV rfl rfl)) ?_
  refine zA_aldn rfl rfl rfl ?_
  refine zA_aldn rfl rfl rfl ?_
  refine zA_ld rfl rfl rfl ?_
  refine zA_push rfl rfl zkk5 ?_
  refine zA_st (st' := [zI (x5 + (1 : Int32)), zrv x0, zrv x2]) rfl rfl rfl rfl ?_
  obtain ⟨p30, i31, j32, e33, c34, c35, e36, H⟩ := zai_e H
  refine zA_ial rfl rfl e33 c34 c35 e36 ?_
  obtain ⟨p37, i38, e39, c40, H⟩ := zob_e H
  rcases zb_e H with ⟨x42, h41, C, H⟩ | ⟨E, h41, C, H⟩
  · refine zA_callV (as := [zrv x2, zI (zi h28 p30 i31 j32)]) (st' := []) rfl rfl rfl (zrcv_Q e39 c40) rfl (zmE149 _ _) rfl (zmS149 C) ?_
    refine zA_ist2 rfl rfl rfl (zset1 (L' := [some (zrv x0), some (zrv x1), some (zrv x2), some (zrv x3), some (zrv x4), some (zI x5), some (zI x29), some (zI x42), none]) rfl rfl (zpcV rfl rfl)) ?_
    refine zA_aldn rfl rfl rfl ?_
    rcases zb_e H with ⟨x44, h43, C, H⟩ | ⟨E, h43, C, H⟩
    · refine zA_callV (as := [zrv x2]) (st' := []) rfl rfl rfl (zrcv_Q e39 c40) rfl (zmE137 _) rfl (zmS137 C) ?_
      refine zA_ld rfl rfl rfl ?_
      rcases zite_e H with ⟨c45, H⟩ | ⟨c45, H⟩
      · refine zA_brT (c := x44 = x29) rfl rfl rfl c45 ?_
        refine zA_ld rfl rfl rfl ?_
        rcases zite_e H with ⟨c46, H⟩ | ⟨c46, H⟩
        · refine zA_brF' (c := x29 = 0) rfl rfl rfl c46 ?_
          refine zA_aldn rfl rfl rfl ?_
          refine zA_push rfl rfl zkk7 ?_
          obtain ⟨p47, i48, j49, e50, c51, c52, e53, H⟩ := zar_e H
          refine zA_lal rfl rfl e50 c51 c52 e53 ?_
          refine zA_ld rfl rfl rfl ?_
          rcases zite_e H with ⟨c54, H⟩ | ⟨c54, H⟩
          · refine zA_brT (c := x42 = 0) rfl rfl rfl c54 ?_
            refine zA_tr (L := [some (zrv x0), some (zrv x1), some (zrv x2), some (zrv x3), some (zrv x4), some (zI x5), none, none, none]) rfl rfl ?_
            refine zA_push rfl rfl zkk24 ?_
            exact zA_tr (L := [some (zrv x0), some (zrv x1), some (zrv x2), some (zrv x3), some (zrv x4), some (zI x5), none, none, none]) rfl rfl (zmS291_237 hk16 _ _ _ _ _ _ _ _ _ _ _ H)
          · refine zA_brF (c := x42 = 0) rfl rfl rfl c54 ?_
            refine zA_push rfl rfl zkk25 ?_
            refine zA_go rfl rfl ?_
            exact zA_tr (L := [some (zrv x0), some (zrv x1), some (zrv x2), some (zrv x3), some (zrv x4), some (zI x5), none, none, none]) rfl rfl (zmS291_237 hk16 _ _ _ _ _ _ _ _ _ _ _ H)
        · refine zA_brT' (c := x29 = 0) rfl rfl rfl c46 ?_
          refine zA_tr (L := [some (zrv x0), some (zrv x1), some (zrv x2), some (zrv x3), some (zrv x4), some (zI x5), none, none, none]) rfl rfl ?_
          refine zA_go rfl rfl ?_
          exact zA_tr (L := [some (zrv x0), some (zrv x1), some (zrv x2), some (zrv x3), some (zrv x4), some (zI x5), none, none, none]) rfl rfl (zmS291_2349 hk16 _ _ _ _ _ _ _ _ _ H)
      · refine zA_brF (c := x44 = x29) rfl rfl rfl c45 ?_
        refine zA_push rfl rfl zkk7 ?_
        cases H
        exact zA_ret rfl (zret_Z (by decide))
    · cases H
      exact zA_callX (as := [zrv x2]) (st' := []) rfl rfl (zrcv_Q e39 c40) rfl (zmE137 _) rfl rfl rfl (zmS137 C)
  · cases H
    exact zA_callX (as := [zrv x2, zI (zi h28 p30 i31 j32)]) (st' := []) rfl rfl (zrcv_Q e39 c40) rfl (zmE149 _ _) rfl rfl rfl (zmS149 C)
def zm291_159 (k16 : zq → zq → zq → zq → zq → Int32 → zH → zRs Int32) (x0 : zq) (x1 : zq) (x2 : zq) (x3 : zq) (x4 : zq) (x5 : Int32) (h : zH) : zRs Int32 :=
  zai x0 (x5 + (1 : Int32)) h fun p21 i22 j23 =>
  zai x0 (x5 + (2 : Int32)) h fun p28 i29 j30 =>
  zb2 (zm242 x1 (zi h p21 i22 j23) (zi h p28 i29 j30) x3 h) fun x36 h35 =>
  zai x0 (x5 + (1 : Int32)) h35 fun p37 i38 j39 =>
  zai x0 (x5 + (2 : Int32)) h35 fun p44 i45 j46 =>
  zob 12 x2 fun p51 i52 =>
  zb (zm147 x2 (zi h35 p37 i38 j39) (zi h35 p44 i45 j46) h35) fun x56 h55 =>
  zb (zm137 x2 h55) fun x58 h57 =>
  if x58 = x36 then
    if x36 = 0 then
      zar 3 x3 (0 : Int32) h57 fun p61 i62 j63 =>
      if (lg_cmp (zl h57 p61 i62 j63) (x56.toInt64)) = 0 then
        zm291_2349 k16 x0 x1 x2 x3 x4 x5 h57
      else
        some (.inl (0 : Int32), h57)
    else
      zm291_2349 k16 x0 x1 x2 x3 x4 x5 h57
  else
    some (.inl (0 : Int32), h57)
theorem zmS291_159 {k16 : zq → zq → zq → zq → zq → Int32 → zH → zRs Int32} (hk16 : ∀ (x0 : zq) (x1 : zq) (x2 : zq) (x3 : zq) (x4 : zq) (x5 : Int32) (h : zH) (r : Int32 ⊕ Nat) (h' : zH), k16 x0 x1 x2 x3 x4 x5 h = some (r, h') → zAt 291 16 [some (zrv x0), some (zrv x1), some (zrv x2), some (zrv x3), some (zrv x4), some (zI x5), none, none, none] [] h (zoI r) h') : ∀ (x0 : zq) (x1 : zq) (x2 : zq) (x3 : zq) (x4 : zq) (x5 : Int32) (h : zH) (r : Int32 ⊕ Nat) (h' : zH), zm291_159 k16 x0 x1 x2 x3 x4 x5 h = some (r, h') → zAt 291 159 [some (zrv x0), some (zrv x1), some (zrv x2), some (zrv x3), some (zrv x4), some (zI x5), none, none, none] [] h (zoI r) h' := by
  intro x0 x1 x2 x3 x4 x5 h r h' H
  unfold zm291_159 at H
  refine zA_aldn rfl rfl rfl ?_
  refine zA_aldn rfl rfl rfl ?_
  refine zA_ld rfl rfl rfl ?_
  refine zA_push rfl rfl zkk5 ?_
  refine zA_st (st' := [zI (x5 + (1 : Int32)), zrv x0, zrv x1]) rfl rfl rfl rfl ?_
  obtain ⟨p21, i22, j23, e24, c25, c26, e27, H⟩ := zai_e H
  refine zA_ial rfl rfl e24 c25 c26 e27 ?_
  refine zA_aldn rfl rfl rfl ?_
  refine zA_ld rfl rfl rfl ?_
  refine zA_push rfl rfl zkk23 ?_
  refine zA_st (st' := [zI (x5 + (2 : Int32)), zrv x0, zI (zi h p21 i22 j23), zrv x1]) rfl rfl rfl rfl ?_
  obtain ⟨p28, i29, j30, e31, c32, c33, e34, H⟩ := zai_e H
  refine zA_ial rfl rfl e31 c32 c33 e34 ?_
  refine zA_aldn rfl rfl rfl ?_
  obtain ⟨x36, h35, C, H⟩ := zb2_e H
  refine zA_callV (as := [zrv x1, zI (zi h p21 i22 j23), zI (zi h p28 i29 j30), zrv x3]) (st' := []) rfl rfl rfl rfl rfl (zmE242 _ _ _ _) rfl (zmS242 C) ?_
  refine zA_ist2 rfl rfl rfl (zset1 (L' := [some (zrv x0), some (zrv x1), some (zrv x2), some (zrv x3), some (zrv x4), some (zI x5), some (zI x36), none, none]) rfl rfl (zpcV rfl rfl)) ?_
  refine zA_aldn rfl rfl rfl ?_
  refine zA_aldn rfl rfl rfl ?_
  refine zA_ld rfl rfl rfl ?_
  refine zA_push rfl rfl zkk5 ?_
  refine zA_st (st' := [zI (x5 + (1 : Int32)), zrv x0, zrv x2]) rfl rfl rfl rfl ?_
  obtain ⟨p37, i38, j39, e40, c41, c42, e43, H⟩ := zai_e H
  refine zA_ial rfl rfl e40 c41 c42 e43 ?_
  refine zA_aldn rfl rfl rfl ?_
  refine zA_ld rfl rfl rfl ?_
  refine zA_push rfl rfl zkk23 ?_
  refine zA_st (st' := [zI (x5 + (2 : Int32)), zrv x0, zI (zi h35 p37 i38 j39), zrv x2]) rfl rfl rfl rfl ?_
  obtain ⟨p44, i45, j46, e47, c48, c49, e50, H⟩ := zai_e H
  refine zA_ial rfl rfl e47 c48 c49 e50 ?_
  obtain ⟨p51, i52, e53, c54, H⟩ := zob_e H
  rcases zb_e H with ⟨x56, h55, C, H⟩ | ⟨E, h55, C, H⟩
  · refine zA_callV (as := [zrv x2, zI (zi h35 p37 i38 j39), zI (zi h35 p44 i45 j46)]) (st' := []) rfl rfl rfl (zrcv_Q e53 c54) rfl (zmE147 _ _ _) rfl (zmS147 C) ?_
    refine zA_ist2 rfl rfl rfl (zset1 (L' := [some (zrv x0), some (zrv x1), some (zrv x2), some (zrv x3), some (zrv x4), some (zI x5), some (zI x36), some (zI x56), none]) rfl rfl (zpcV rfl rfl)) ?_
    refine zA_aldn rfl rfl rfl ?_
    rcases zb_e H with ⟨x58, h57, C, H⟩ | ⟨E, h57, C, H⟩
    · refine zA_callV (as := [zrv x2]) (st' := []) rfl rfl rfl (zrcv_Q e53 c54) rfl (zmE137 _) rfl (zmS137 C) ?_
      refine zA_ld rfl rfl rfl ?_
      rcases zite_e H with ⟨c59, H⟩ | ⟨c59, H⟩
      · refine zA_brT (c := x58 = x36) rfl rfl rfl c59 ?_
        refine zA_ld rfl rfl rfl ?_
        rcases zite_e H with ⟨c60, H⟩ | ⟨c60, H⟩
        · refine zA_brF' (c := x36 = 0) rfl rfl rfl c60 ?_
          refine zA_aldn rfl rfl rfl ?_
          refine zA_push rfl rfl zkk7 ?_
          obtain ⟨p61, i62, j63, e64, c65, c66, e67, H⟩ := zar_e H
          refine zA_lal rfl rfl e64 c65 c66 e67 ?_
          refine zA_ld rfl rfl rfl ?_
          refine zA_st (st' := [zJ (x56.toInt64), zJ (zl h57 p61 i62 j63)]) rfl rfl rfl rfl ?_
          refine zA_st (st' := [zI (lg_cmp (zl h57 p61 i62 j63) (x56.toInt64))]) rfl rfl rfl rfl ?_
          rcases zite_e H with ⟨c68, H⟩ | ⟨c68, H⟩
          · refine zA_brT (c := (lg_cmp (zl h57 p61 i62 j63) (x56.toInt64)) = 0) rfl rfl rfl c68 ?_
            refine zA_tr (L := [some (zrv x0), some (zrv x1), some (zrv x2), some (zrv x3), some (zrv x4), some (zI x5), none, none, none]) rfl rfl ?_
            refine zA_go rfl rfl ?_
            exact zA_tr (L := [some (zrv x0), some (zrv x1), some (zrv x2), some (zrv x3), some (zrv x4), some (zI x5), none, none, none]) rfl rfl (zmS291_2349 hk16 _ _ _ _ _ _ _ _ _ H)
          · refine zA_brF (c := (lg_cmp (zl h57 p61 i62 j63) (x56.toInt64)) = 0) rfl rfl rfl c68 ?_
            refine zA_push rfl rfl zkk7 ?_
            cases H
            exact zA_ret rfl (zret_Z (by decide))
        · refine zA_brT' (c := x36 = 0) rfl rfl rfl c60 ?_
          refine zA_tr (L := [some (zrv x0), some (zrv x1), some (zrv x2), some (zrv x3), some (zrv x4), some (zI x5), none, none, none]) rfl rfl ?_
          refine zA_go rfl rfl ?_
          exact zA_tr (L := [some (zrv x0), some (zrv x1), some (zrv x2), some (zrv x3), some (zrv x4), some (zI x5), none, none, none]) rfl rfl (zmS291_2349 hk16 _ _ _ _ _ _ _ _ _ H)
      · refine zA_brF (c := x58 = x36) rfl rfl rfl c59 ?_
        refine zA_push rfl rfl zkk7 ?_
        cases H
        exact zA_ret rfl (zret_Z (by decide))
    · cases H
      exact zA_callX (as := [zrv x2]) (st' := []) rfl rfl (zrcv_Q e53 c54) rfl (zmE137 _) rfl rfl rfl (zmS137 C)
  · cases H
    exact zA_callX (as := [zrv x2, zI (zi h35 p37 i38 j39), zI (zi h35 p44 i45 j46)]) (st' := []) rfl rfl (zrcv_Q e53 c54) rfl (zmE147 _ _ _) rfl rfl rfl (zmS147 C)
def zm291_139 (k16 : zq → zq → zq → zq → zq → Int32 → zH → zRs Int32) (x0 : zq) (x1 : zq) (x2 : zq) (x3 : zq) (x4 : zq) (x5 : Int32) (x6 : Int32) (s0 : zq) (s1 : Int32) (s2 : Int32) (s3 : Int32) (s4 : Int32) (s5 : Int32) (s6 : Int32) (s7 : Int32) (s8 : Int32) (s9 : Int32) (h : zH) : zRs Int32 :=
  zob 12 s0 fun p21 i22 =>
  zb (zm145 s0 s1 s2 s3 s4 s5 s6 s7 s8 s9 h) fun x26 h25 =>
  zob 12 x2 fun p27 i28 =>
  zb (zm137 x2 h25) fun x32 h31 =>
  if x32 = x6 then
    if x6 = 0 then
      zar 3 x3 (0 : Int32) h31 fun p35 i36 j37 =>
      if (lg_cmp (zl h31 p35 i36 j37) (x26.toInt64)) = 0 then
        zm291_2349 k16 x0 x1 x2 x3 x4 x5 h31
      else
        some (.inl (0 : Int32), h31)
    else
      zm291_2349 k16 x0 x1 x2 x3 x4 x5 h31
  else
    some (.inl (0 : Int32), h31)
theorem zmS291_139 {k16 : zq → zq → zq → zq → zq → Int32 → zH → zRs Int32} (hk16 : ∀ (x0 : zq) (x1 : zq) (x2 : zq) (x3 : zq) (x4 : zq) (x5 : Int32) (h : zH) (r : Int32 ⊕ Nat) (h' : zH), k16 x0 x1 x2 x3 x4 x5 h = some (r, h') → zAt 291 16 [some (zrv x0), some (zrv x1), some (zrv x2), some (zrv x3), some (zrv x4), some (zI x5), none, none, none] [] h (zoI r) h') : ∀ (x0 : zq) (x1 : zq) (x2 : zq) (x3 : zq) (x4 : zq) (x5 : Int32) (x6 : Int32) (s0 : zq) (s1 : Int32) (s2 : Int32) (s3 : Int32) (s4 : Int32) (s5 : Int32) (s6 : Int32) (s7 : Int32) (s8 : Int32) (s9 : Int32) (h : zH) (r : Int32 ⊕ Nat) (h' : zH), zm291_139 k16 x0 x1 x2 x3 x4 x5 x6 s0 s1 s2 s3 s4 s5 s6 s7 s8 s9 h = some (r, h') → zAt 291 139 [some (zrv x0), some (zrv x1), some (zrv x2), some (zrv x3), some (zrv x4), some (zI x5), some (zI x6), none, none] [zI s9, zI s8, zI s7, zI s6, zI s5, zI s4, zI s3, zI s2, zI s1, zrv s0] h (zoI r) h' := by
  intro x0 x1 x2 x3 x4 x5 x6 s0 s1 s2 s3 s4 s5 s6 s7 s8 s9 h r h' H
  unfold zm291_139 at H
  obtain ⟨p21, i22, e23, c24, H⟩ := zob_e H
  rcases zb_e H with ⟨x26, h25, C, H⟩ | ⟨E, h25, C, H⟩
  · refine zA_callV (as := [zrv s0, zI s1, zI s2, zI s3, zI s4, zI s5, zI s6, zI s7, zI s8, zI s9]) (st' := []) rfl rfl rfl (zrcv_Q e23 c24) rfl (zmE145 _ _ _ _ _ _ _ _ _ _) rfl (zmS145 C) ?_
    refine zA_ist2 rfl rfl rfl (zset1 (L' := [some (zrv x0), some (zrv x1), some (zrv x2), some (zrv x3), some (zrv x4), some (zI x5), some (zI x6), some (zI x26), none]) rfl rfl (zpcV rfl rfl)) ?_
    refine zA_aldn rfl rfl rfl ?_
    obtain ⟨p27, i28, e29, c30, H⟩ := zob_e H
    rcases zb_e H with ⟨x32, h31, C, H⟩ | ⟨E, h31, C, H⟩
    · refine zA_callV (as := [zrv x2]) (st' := []) rfl rfl rfl (zrcv_Q e29 c30) rfl (zmE137 _) rfl (zmS137 C) ?_
      refine zA_ld rfl rfl rfl ?_
      rcases zite_e H with ⟨c33, H⟩ | ⟨c33, H⟩
      · refine zA_brT (c := x32 = x6) rfl rfl rfl c33 ?_
        refine zA_ld rfl rfl rfl ?_
        rcases zite_e H with ⟨c34, H⟩ | ⟨c34, H⟩
        · refine zA_brF' (c := x6 = 0) rfl rfl rfl c34 ?_
          refine zA_aldn rfl rfl rfl ?_
          refine zA_push rfl rfl zkk7 ?_
          obtain ⟨p35, i36, j37, e38, c39, c40, e41, H⟩ := zar_e H
          refine zA_lal rfl rfl e38 c39 c40 e41 ?_
          refine zA_ld rfl rfl rfl ?_
          refine zA_st (st' := [zJ (x26.toInt64), zJ (zl h31 p35 i36 j37)]) rfl rfl rfl rfl ?_
          refine zA_st (st' := [zI (lg_cmp (zl h31 p35 i36 j37) (x26.toInt64))]) rfl rfl rfl rfl ?_
          rcases zite_e H with ⟨c42, H⟩ | ⟨c42, H⟩
          · refine zA_brT (c := (lg_cmp (zl h31 p35 i36 j37) (x26.toInt64)) = 0) rfl rfl rfl c42 ?_
            refine zA_tr (L := [some (zrv x0), some (zrv x1), some (zrv x2), some (zrv x3), some (zrv x4), some (zI x5), none, none, none]) rfl rfl ?_
            refine zA_go rfl rfl ?_
            exact zA_tr (L := [some (zrv x0), some (zrv x1), some (zrv x2), some (zrv x3), some (zrv x4), some (zI x5), none, none, none]) rfl rfl (zmS291_2349 hk16 _ _ _ _ _ _ _ _ _ H)
          · refine zA_brF (c := (lg_cmp (zl h31 p35 i36 j37) (x26.toInt64)) = 0) rfl rfl rfl c42 ?_
            refine zA_push rfl rfl zkk7 ?_
            cases H
            exact zA_ret rfl (zret_Z (by decide))
        · refine zA_brT' (c := x6 = 0) rfl rfl rfl c34 ?_
          refine zA_tr (L := [some (zrv x0), some (zrv x1), some (zrv x2), some (zrv x3), some (zrv x4), some (zI x5), none, none, none]) rfl rfl ?_
          refine zA_go rfl rfl ?_
          exact zA_tr (L := [some (zrv x0), some (zrv x1), some (zrv x2), some (zrv x3), some (zrv x4), some (zI x5), none, none, none]) rfl rfl (zmS291_2349 hk16 _ _ _ _ _ _ _ _ _ H)
      · refine zA_brF (c := x32 = x6) rfl rfl rfl c33 ?_
        refine zA_push rfl rfl zkk7 ?_
        cases H
        exact zA_ret rfl (zret_Z (by decide))
    · cases H
      exact zA_callX (as := [zrv x2]) (st' := []) rfl rfl (zrcv_Q e29 c30) rfl (zmE137 _) rfl rfl rfl (zmS137 C)
  · cases H
    exact zA_callX (as := [zrv s0, zI s1, zI s2, zI s3, zI s4, zI s5, zI s6, zI s7, zI s8, zI s9]) (st' := []) rfl rfl (zrcv_Q e23 c24) rfl (zmE145 _ _ _ _ _ _ _ _ _ _) rfl rfl rfl (zmS145 C)
def zm291_130 (k16 : zq → zq → zq → zq → zq → Int32 → zH → zRs Int32) (x0 : zq) (x1 : zq) (x2 : zq) (x3 : zq) (x4 : zq) (x5 : Int32) (x6 : Int32) (s0 : zq) (s1 : Int32) (s2 : Int32) (s3 : Int32) (s4 : Int32) (s5 : Int32) (s6 : Int32) (s7 : Int32) (s8 : Int32) (h : zH) : zRs Int32 :=
  zai x0 (x5 + (9 : Int32)) h fun p21 i22 j23 =>
  if (zi h p21 i22 j23) = 0 then
    zm291_139 k16 x0 x1 x2 x3 x4 x5 x6 s0 s1 s2 s3 s4 s5 s6 s7 s8 (0 : Int32) h
  else
    zm291_139 k16 x0 x1 x2 x3 x4 x5 x6 s0 s1 s2 s3 s4 s5 s6 s7 s8 (1 : Int32) h
theorem zmS291_130 {k16 : zq → zq → zq → zq → zq → Int32 → zH → zRs Int32} (hk16 : ∀ (x0 : zq) (x1 : zq) (x2 : zq) (x3 : zq) (x4 : zq) (x5 : Int32) (h : zH) (r : Int32 ⊕ Nat) (h' : zH), k16 x0 x1 x2 x3 x4 x5 h = some (r, h') → zAt 291 16 [some (zrv x0), some (zrv x1), some (zrv x2), some (zrv x3), some (zrv x4), some (zI x5), none, none, none] [] h (zoI r) h') : ∀ (x0 : zq) (x1 : zq) (x2 : zq) (x3 : zq) (x4 : zq) (x5 : Int32) (x6 : Int32) (s0 : zq) (s1 : Int32) (s2 : Int32) (s3 : Int32) (s4 : Int32) (s5 : Int32) (s6 : Int32) (s7 : Int32) (s8 : Int32) (h : zH) (r : Int32 ⊕ Nat) (h' : zH), zm291_130 k16 x0 x1 x2 x3 x4 x5 x6 s0 s1 s2 s3 s4 s5 s6 s7 s8 h = some (r, h') → zAt 291 130 [some (zrv x0), some (zrv x1), some (zrv x2), some (zrv x3), some (zrv x4), some (zI x5), some (zI x6), none, none] [zI s8, zI s7, zI s6, zI s5, zI s4, zI s3, zI s2, zI s1, zrv s0] h (zoI r) h' := by
  intro x0 x1 x2 x3 x4 x5 x6 s0 s1 s2 s3 s4 s5 s6 s7 s8 h r h' H
  unfold zm291_130 at H
  refine zA_aldn rfl rfl rfl ?_
  refine zA_ld rfl rfl rfl ?_
  refine zA_push rfl rfl zkk19 ?_
  refine zA_st (st' := [zI (x5 + (9 : Int32)), zrv x0, zI s8, zI s7, zI s6, zI s5, zI s4, zI s3, zI s2, zI s1, zrv s0]) rfl rfl rfl rfl ?_
  obtain ⟨p21, i22, j23, e24, c25, c26, e27, H⟩ := zai_e H
  refine zA_ial rfl rfl e24 c25 c26 e27 ?_
  rcases zite_e H with ⟨c28, H⟩ | ⟨c28, H⟩
  · refine zA_brT (c := (zi h p21 i22 j23) = 0) rfl rfl rfl c28 ?_
    refine zA_push rfl rfl zkk7 ?_
    exact zA_tr (L := [some (zrv x0), some (zrv x1), some (zrv x2), some (zrv x3), some (zrv x4), some (zI x5), some (zI x6), none, none]) rfl rfl (zmS291_139 hk16 _ _ _ _ _ _ _ _ _ _ _ _ _ _ _ _ _ _ _ _ H)
  · refine zA_brF (c := (zi h p21 i22 j23) = 0) rfl rfl rfl c28 ?_
    refine zA_push rfl rfl zkk5 ?_
    refine zA_go rfl rfl ?_
    exact zA_tr (L := [some (zrv x0), some (zrv x1), some (zrv x2), some (zrv x3), some (zrv x4), some (zI x5), some (zI x6), none, none]) rfl rfl (zmS291_139 hk16 _ _ _ _ _ _ _ _ _ _ _ _ _ _ _ _ _ _ _ _ H)
def zm291_82 (k16 : zq → zq → zq → zq → zq → Int32 → zH → zRs Int32) (x0 : zq) (x1 : zq) (x2 : zq) (x3 : zq) (x4 : zq) (x5 : Int32) (s0 : zq) (s1 : Int32) (s2 : Int32) (s3 : Int32) (s4 : Int32) (s5 : Int32) (s6 : Int32) (s7 : Int32) (s8 : Int32) (s9 : Int32) (h : zH) : zRs Int32 :=
  zb2 (zm241 s0 s1 s2 s3 s4 s5 s6 s7 s8 s9 x3 h) fun x22 h21 =>
  zai x0 (x5 + (1 : Int32)) h21 fun p23 i24 j25 =>
  zai x0 (x5 + (2 : Int32)) h21 fun p30 i31 j32 =>
  zai x0 (x5 + (3 : Int32)) h21 fun p37 i38 j39 =>
  zai x0 (x5 + (4 : Int32)) h21 fun p44 i45 j46 =>
  zai x0 (x5 + (5 : Int32)) h21 fun p51 i52 j53 =>
  zai x0 (x5 + (6 : Int32)) h21 fun p58 i59 j60 =>
  zai x0 (x5 + (7 : Int32)) h21 fun p65 i66 j67 =>
  zai x0 (x5 + (8 : Int32)) h21 fun p72 i73 j74 =>
  if (zi h21 p72 i73 j74) = 0 then
    zm291_130 k16 x0 x1 x2 x3 x4 x5 x22 x2 (zi h21 p23 i24 j25) (zi h21 p30 i31 j32) (zi h21 p37 i38 j39) (zi h21 p44 i45 j46) (zi h21 p51 i52 j53) (zi h21 p58 i59 j60) (zi h21 p65 i66 j67) (0 : Int32) h21
  else
    zm291_130 k16 x0 x1 x2 x3 x4 x5 x22 x2 (zi h21 p23 i24 j25) (zi h21 p30 i31 j32) (zi h21 p37 i38 j39) (zi h21 p44 i45 j46) (zi h21 p51 i52 j53) (zi h21 p58 i59 j60) (zi h21 p65 i66 j67) (1 : Int32) h21
theorem zmS291_82 {k16 : zq → zq → zq → zq → zq → Int32 → zH → zRs Int32} (hk16 : ∀ (x0 : zq) (x1 : zq) (x2 : zq) (x3 : zq) (x4 : zq) (x5 : Int32) (h : zH) (r : Int32 ⊕ Nat) (h' : zH), k16 x0 x1 x2 x3 x4 x5 h = some (r, h') → zAt 291 16 [some (zrv x0), some (zrv x1), some (zrv x2), some (zrv x3), some (zrv x4), some (zI x5), none, none, none] [] h (zoI r) h') : ∀ (x0 : zq) (x1 : zq) (x2 : zq) (x3 : zq) (x4 : zq) (x5 : Int32) (s0 : zq) (s1 : Int32) (s2 : Int32) (s3 : Int32) (s4 : Int32) (s5 : Int32) (s6 : Int32) (s7 : Int32) (s8 : Int32) (s9 : Int32) (h : zH) (r : Int32 ⊕ Nat) (h' : zH), zm291_82 k16 x0 x1 x2 x3 x4 x5 s0 s1 s2 s3 s4 s5 s6 s7 s8 s9 h = some (r, h') → zAt 291 82 [some (zrv x0), some (zrv x1), some (zrv x2), some (zrv x3), some (zrv x4), some (zI x5), none, none, none] [zI s9, zI s8, zI s7, zI s6, zI s5, zI s4, zI s3, zI s2, zI s1, zrv s0] h (zoI r) h' := by
  intro x0 x1 x2 x3 x4 x5 s0 s1 s2 s3 s4 s5 s6 s7 s8 s9 h r h' H
  unfold zm291_82 at H
  refine zA_aldn rfl rfl rfl ?_
  obtain ⟨x22, h21, C, H⟩ := zb2_e H
  refine zA_callV (as := [zrv s0, zI s1, zI s2, zI s3, zI s4, zI s5, zI s6, zI s7, zI s8, zI s9, zrv x3]) (st' := []) rfl rfl rfl rfl rfl (zmE241 _ _ _ _ _ _ _ _ _ _ _) rfl (zmS241 C) ?_
  refine zA_ist2 rfl rfl rfl (zset1 (L' := [some (zrv x0), some (zrv x1), some (zrv x2), some (zrv x3), some (zrv x4), some (zI x5), some (zI x22), none, none]) rfl rfl (zpcV rfl rfl)) ?_
  refine zA_aldn rfl rfl rfl ?_
  refine zA_aldn rfl rfl rfl ?_
  refine zA_ld rfl rfl rfl ?_
  refine zA_push rfl rfl zkk5 ?_
  refine zA_st (st' := [zI (x5 + (1 : Int32)), zrv x0, zrv x2]) rfl rfl rfl rfl ?_
  obtain ⟨p23, i24, j25, e26, c27, c28, e29, H⟩ := zai_e H
  refine zA_ial rfl rfl e26 c27 c28 e29 ?_
  refine zA_aldn rfl rfl rfl ?_
  refine zA_ld rfl rfl rfl ?_
  refine zA_push rfl rfl zkk23 ?_
  refine zA_st (st' := [zI (x5 + (2 : Int32)), zrv x0, zI (zi h21 p23 i24 j25), zrv x2]) rfl rfl rfl rfl ?_
  obtain ⟨p30, i31, j32, e33, c34, c35, e36, H⟩ := zai_e H
  refine zA_ial rfl rfl e33 c34 c35 e36 ?_
  refine zA_aldn rfl rfl rfl ?_
  refine zA_ld rfl rfl rfl ?_
  refine zA_push rfl rfl zkk3 ?_
  refine zA_st (st' := [zI (x5 + (3 : Int32)), zrv x0, zI (zi h21 p30 i31 j32), zI (zi h21 p23 i24 j25), zrv x2]) rfl rfl rfl rfl ?_
  obtain ⟨p37, i38, j39, e40, c41, c42, e43, H⟩ := zai_e H
  refine zA_ial rfl rfl e40 c41 c42 e43 ?_
  refine zA_aldn rfl rfl rfl ?_
  refine zA_ld rfl rfl rfl ?_
  refine zA_push rfl rfl zkk9 ?_
  refine zA_st (st' := [zI (x5 + (4 : Int32)), zrv x0, zI (zi h21 p37 i38 j39), zI (zi h21 p30 i31 j32), zI (zi h21 p23 i24 j25), zrv x2]) rfl rfl rfl rfl ?_
  obtain ⟨p44, i45, j46, e47, c48, c49, e50, H⟩ := zai_e H
  refine zA_ial rfl rfl e47 c48 c49 e50 ?_
  refine zA_aldn rfl rfl rfl ?_
  refine zA_ld rfl rfl rfl ?_
  refine zA_push rfl rfl zkk20 ?_
  refine zA_st (st' := [zI (x5 + (5 : Int32)), zrv x0, zI (zi h21 p44 i45 j46), zI (zi h21 p37 i38 j39), zI (zi h21 p30 i31 j32), zI (zi h21 p23 i24 j25), zrv x2]) rfl rfl rfl rfl ?_
  obtain ⟨p51, i52, j53, e54, c55, c56, e57, H⟩ := zai_e H
  refine zA_ial rfl rfl e54 c55 c56 e57 ?_
  refine zA_aldn rfl rfl rfl ?_
  refine zA_ld rfl rfl rfl ?_
  refine zA_push rfl rfl zkk14 ?_
  refine zA_st (st' := [zI (x5 + (6 : Int32)), zrv x0, zI (zi h21 p51 i52 j53), zI (zi h21 p44 i45 j46), zI (zi h21 p37 i38 j39), zI (zi h21 p30 i31 j32), zI (zi h21 p23 i24 j25), zrv x2]) rfl rfl rfl rfl ?_
  obtain ⟨p58, i59, j60, e61, c62, c63, e64, H⟩ := zai_e H
  refine zA_ial rfl rfl e61 c62 c63 e64 ?_
  refine zA_aldn rfl rfl rfl ?_
  refine zA_ld rfl rfl rfl ?_
  refine zA_push rfl rfl zkk22 ?_
  refine zA_st (st' := [zI (x5 + (7 : Int32)), zrv x0, zI (zi h21 p58 i59 j60), zI (zi h21 p51 i52 j53), zI (zi h21 p44 i45 j46), zI (zi h21 p37 i38 j39), zI (zi h21 p30 i31 j32), zI (zi h21 p23 i24 j25), zrv x2]) rfl rfl rfl rfl ?_
  obtain ⟨p65, i66, j67, e68, c69, c70, e71, H⟩ := zai_e H
  refine zA_ial rfl rfl e68 c69 c70 e71 ?_
  refine zA_aldn rfl rfl rfl ?_
  refine zA_ld rfl rfl rfl ?_
  refine zA_push rfl rfl zkk0 ?_
  refine zA_st (st' := [zI (x5 + (8 : Int32)), zrv x0, zI (zi h21 p65 i66 j67), zI (zi h21 p58 i59 j60), zI (zi h21 p51 i52 j53), zI (zi h21 p44 i45 j46), zI (zi h21 p37 i38 j39), zI (zi h21 p30 i31 j32), zI (zi h21 p23 i24 j25), zrv x2]) rfl rfl rfl rfl ?_
  obtain ⟨p72, i73, j74, e75, c76, c77, e78, H⟩ := zai_e H
  refine zA_ial rfl rfl e75 c76 c77 e78 ?_
  rcases zite_e H with ⟨c79, H⟩ | ⟨c79, H⟩
  · refine zA_brT (c := (zi h21 p72 i73 j74) = 0) rfl rfl rfl c79 ?_
    refine zA_push rfl rfl zkk7 ?_
    exact zA_tr (L := [some (zrv x0), some (zrv x1), some (zrv x2), some (zrv x3), some (zrv x4), some (zI x5), some (zI x22), none, none]) rfl rfl (zmS291_130 hk16 _ _ _ _ _ _ _ _ _ _ _ _ _ _ _ _ _ _ _ H)
  · refine zA_brF (c := (zi h21 p72 i73 j74) = 0) rfl rfl rfl c79 ?_
    refine zA_push rfl rfl zkk5 ?_
    refine zA_go rfl rfl ?_
    exact zA_tr (L := [some (zrv x0), some (zrv x1), some (zrv x2), some (zrv x3), some (zrv x4), some (zI x5), some (zI x22), none, none]) rfl rfl (zmS291_130 hk16 _ _ _ _ _ _ _ _ _ _ _ _ _ _ _ _ _ _ _ H)
def zm291_73 (k16 : zq → zq → zq → zq → zq → Int32 → zH → zRs Int32) (x0 : zq) (x1 : zq) (x2 : zq) (x3 : zq) (x4 : zq) (x5 : Int32) (s0 : zq) (s1 : Int32) (s2 : Int32) (s3 : Int32) (s4 : Int32) (s5 : Int32) (s6 : Int32) (s7 : Int32) (s8 : Int32) (h : zH) : zRs Int32 :=
  zai x0 (x5 + (9 : Int32)) h fun p21 i22 j23 =>
  if (zi h p21 i22 j23) = 0 then
    zm291_82 k16 x0 x1 x2 x3 x4 x5 s0 s1 s2 s3 s4 s5 s6 s7 s8 (0 : Int32) h
  else
    zm291_82 k16 x0 x1 x2 x3 x4 x5 s0 s1 s2 s3 s4 s5 s6 s7 s8 (1 : Int32) h
theorem zmS291_73 {k16 : zq → zq → zq → zq → zq → Int32 → zH → zRs Int32} (hk16 : ∀ (x0 : zq) (x1 : zq) (x2 : zq) (x3 : zq) (x4 : zq) (x5 : Int32) (h : zH) (r : Int32 ⊕ Nat) (h' : zH), k16 x0 x1 x2 x3 x4 x5 h = some (r, h') → zAt 291 16 [some (zrv x0), some (zrv x1), some (zrv x2), some (zrv x3), some (zrv x4), some (zI x5), none, none, none] [] h (zoI r) h') : ∀ (x0 : zq) (x1 : zq) (x2 : zq) (x3 : zq) (x4 : zq) (x5 : Int32) (s0 : zq) (s1 : Int32) (s2 : Int32) (s3 : Int32) (s4 : Int32) (s5 : Int32) (s6 : Int32) (s7 : Int32) (s8 : Int32) (h : zH) (r : Int32 ⊕ Nat) (h' : zH), zm291_73 k16 x0 x1 x2 x3 x4 x5 s0 s1 s2 s3 s4 s5 s6 s7 s8 h = some (r, h') → zAt 291 73 [some (zrv x0), some (zrv x1), some (zrv x2), some (zrv x3), some (zrv x4), some (zI x5), none, none, none] [zI s8, zI s7, zI s6, zI s5, zI s4, zI s3, zI s2, zI s1, zrv s0] h (zoI r) h' := by
  intro x0 x1 x2 x3 x4 x5 s0 s1 s2 s3 s4 s5 s6 s7 s8 h r h' H
  unfold zm291_73 at H
  refine zA_aldn rfl rfl rfl ?_
  refine zA_ld rfl rfl rfl ?_
  refine zA_push rfl rfl zkk19 ?_
  refine zA_st (st' := [zI (x5 + (9 : Int32)), zrv x0, zI s8, zI s7, zI s6, zI s5, zI s4, zI s3, zI s2, zI s1, zrv s0]) rfl rfl rfl rfl ?_
  obtain ⟨p21, i22, j23, e24, c25, c26, e27, H⟩ := zai_e H
  refine zA_ial rfl rfl e24 c25 c26 e27 ?_
  rcases zite_e H with ⟨c28, H⟩ | ⟨c28, H⟩
  · refine zA_brT (c := (zi h p21 i22 j23) = 0) rfl rfl rfl c28 ?_
    refine zA_push rfl rfl zkk7 ?_
    exact zA_tr (L := [some (zrv x0), some (zrv x1), some (zrv x2), some (zrv x3), some (zrv x4), some (zI x5), none, none, none]) rfl rfl (zmS291_82 hk16 _ _ _ _ _ _ _ _ _ _ _ _ _ _ _ _ _ _ _ H)
  · refine zA_brF (c := (zi h p21 i22 j23) = 0) rfl rfl rfl c28 ?_
    refine zA_push rfl rfl zkk5 ?_
    refine zA_go rfl rfl ?_
    exact zA_tr (L := [some (zrv x0), some (zrv x1), some (zrv x2), some (zrv x3), some (zrv x4), some (zI x5), none, none, none]) rfl rfl (zmS291_82 hk16 _ _ _ _ _ _ _ _ _ _ _ _ _ _ _ _ _ _ _ H)
def zm291_28 (k16 : zq → zq → zq → zq → zq → Int32 → zH → zRs Int32) (x0 : zq) (x1 : zq) (x2 : zq) (x3 : zq) (x4 : zq) (x5 : Int32) (h : zH) : zRs Int32 :=
  zai x0 (x5 + (1 : Int32)) h fun p21 i22 j23 =>
  zai x0 (x5 + (2 : Int32)) h fun p28 i29 j30 =>
  zai x0 (x5 + (3 : Int32)) h fun p35 i36 j37 =>
  zai x0 (x5 + (4 : Int32)) h fun p42 i43 j44 =>
  zai x0 (x5 + (5 : Int32)) h fun p49 i50 j51 =>
  zai x0 (x5 + (6 : Int32)) h fun p56 i57 j58 =>
  zai x0 (x5 + (7 : Int32)) h fun p63 i64 j65 =>
  zai x0 (x5 + (8 : Int32)) h fun p70 i71 j72 =>
  if (zi h p70 i71 j72) = 0 then
    zm291_73 k16 x0 x1 x2 x3 x4 x5 x1 (zi h p21 i22 j23) (zi h p28 i29 j30) (zi h p35 i36 j37) (zi h p42 i43 j44) (zi h p49 i50 j51) (zi h p56 i57 j58) (zi h p63 i64 j65) (0 : Int32) h
  else
    zm291_73 k16 x0 x1 x2 x3 x4 x5 x1 (zi h p21 i22 j23) (zi h p28 i29 j30) (zi h p35 i36 j37) (zi h p42 i43 j44) (zi h p49 i50 j51) (zi h p56 i57 j58) (zi h p63 i64 j65) (1 : Int32) h
theorem zmS291_28 {k16 : zq → zq → zq → zq → zq → Int32 → zH → zRs Int32} (hk16 : ∀ (x0 : zq) (x1 : zq) (x2 : zq) (x3 : zq) (x4 : zq) (x5 : Int32) (h : zH) (r : Int32 ⊕ Nat) (h' : zH), k16 x0 x1 x2 x3 x4 x5 h = some (r, h') → zAt 291 16 [some (zrv x0), some (zrv x1), some (zrv x2), some (zrv x3), some (zrv x4), some (zI x5), none, none, none] [] h (zoI r) h') : ∀ (x0 : zq) (x1 : zq) (x2 : zq) (x3 : zq) (x4 : zq) (x5 : Int32) (h : zH) (r : Int32 ⊕ Nat) (h' : zH), zm291_28 k16 x0 x1 x2 x3 x4 x5 h = some (r, h') → zAt 291 28 [some (zrv x0), some (zrv x1), some (zrv x2), some (zrv x3), some (zrv x4), some (zI x5), none, none, none] [] h (zoI r) h' := by
  intro x0 x1 x2 x3 x4 x5 h r h' H
  unfold zm291_28 at H
  refine zA_aldn rfl rfl rfl ?_
  refine zA_aldn rfl rfl rfl ?_
  refine zA_ld rfl rfl rfl ?_
  refine zA_push rfl rfl zkk5 ?_
  refine zA_st (st' := [zI (x5 + (1 : Int32)), zrv x0, zrv x1]) rfl rfl rfl rfl ?_
  obtain ⟨p21, i22, j23, e24, c25, c26, e27, H⟩ := zai_e H
  refine zA_ial rfl rfl e24 c25 c26 e27 ?_
  refine zA_aldn rfl rfl rfl ?_
  refine zA_ld rfl rfl rfl ?_
  refine zA_push rfl rfl zkk23 ?_
  refine zA_st (st' := [zI (x5 + (2 : Int32)), zrv x0, zI (zi h p21 i22 j23), zrv x1]) rfl rfl rfl rfl ?_
  obtain ⟨p28, i29, j30, e31, c32, c33, e34, H⟩ := zai_e H
  refine zA_ial rfl rfl e31 c32 c33 e34 ?_
  refine zA_aldn rfl rfl rfl ?_
  refine zA_ld rfl rfl rfl ?_
  refine zA_push rfl rfl zkk3 ?_
  refine zA_st (st' := [zI (x5 + (3 : Int32)), zrv x0, zI (zi h p28 i29 j30), zI (zi h p21 i22 j23), zrv x1]) rfl rfl rfl rfl ?_
  obtain ⟨p35, i36, j37, e38, c39, c40, e41, H⟩ := zai_e H
  refine zA_ial rfl rfl e38 c39 c40 e41 ?_
  refine zA_aldn rfl rfl rfl ?_
  refine zA_ld rfl rfl rfl ?_
  refine zA_push rfl rfl zkk9 ?_
  refine zA_st (st' := [zI (x5 + (4 : Int32)), zrv x0, zI (zi h p35 i36 j37), zI (zi h p28 i29 j30), zI (zi h p21 i22 j23), zrv x1]) rfl rfl rfl rfl ?_
  obtain ⟨p42, i43, j44, e45, c46, c47, e48, H⟩ := zai_e H
  refine zA_ial rfl rfl e45 c46 c47 e48 ?_
  refine zA_aldn rfl rfl rfl ?_
  refine zA_ld rfl rfl rfl ?_
  refine zA_push rfl rfl zkk20 ?_
  refine zA_st (st' := [zI (x5 + (5 : Int32)), zrv x0, zI (zi h p42 i43 j44), zI (zi h p35 i36 j37), zI (zi h p28 i29 j30), zI (zi h p21 i22 j23), zrv x1]) rfl rfl rfl rfl ?_
  obtain ⟨p49, i50, j51, e52, c53, c54, e55, H⟩ := zai_e H
  refine zA_ial rfl rfl e52 c53 c54 e55 ?_
  refine zA_aldn rfl rfl rfl ?_
  refine zA_ld rfl rfl rfl ?_
  refine zA_push rfl rfl zkk14 ?_
  refine zA_st (st' := [zI (x5 + (6 : Int32)), zrv x0, zI (zi h p49 i50 j51), zI (zi h p42 i43 j44), zI (zi h p35 i36 j37), zI (zi h p28 i29 j30), zI (zi h p21 i22 j23), zrv x1]) rfl rfl rfl rfl ?_
  obtain ⟨p56, i57, j58, e59, c60, c61, e62, H⟩ := zai_e H
  refine zA_ial rfl rfl e59 c60 c61 e62 ?_
  refine zA_aldn rfl rfl rfl ?_
  refine zA_ld rfl rfl rfl ?_
  refine zA_push rfl rfl zkk22 ?_
  refine zA_st (st' := [zI (x5 + (7 : Int32)), zrv x0, zI (zi h p56 i57 j58), zI (zi h p49 i50 j51), zI (zi h p42 i43 j44), zI (zi h p35 i36 j37), zI (zi h p28 i29 j30), zI (zi h p21 i22 j23), zrv x1]) rfl rfl rfl rfl ?_
  obtain ⟨p63, i64, j65, e66, c67, c68, e69, H⟩ := zai_e H
  refine zA_ial rfl rfl e66 c67 c68 e69 ?_
  refine zA_aldn rfl rfl rfl ?_
  refine zA_ld rfl rfl rfl ?_
  refine zA_push rfl rfl zkk0 ?_
  refine zA_st (st' := [zI (x5 + (8 : Int32)), zrv x0, zI (zi h p63 i64 j65), zI (zi h p56 i57 j58), zI (zi h p49 i50 j51), zI (zi h p42 i43 j44), zI (zi h p35 i36 j37), zI (zi h p28 i29 j30), zI (zi h p21 i22 j23), zrv x1]) rfl rfl rfl rfl ?_
  obtain ⟨p70, i71, j72, e73, c74, c75, e76, H⟩ := zai_e H
  refine zA_ial rfl rfl e73 c74 c75 e76 ?_
  rcases zite_e H with ⟨c77, H⟩ | ⟨c77, H⟩
  · refine zA_brT (c := (zi h p70 i71 j72) = 0) rfl rfl rfl c77 ?_
    refine zA_push rfl rfl zkk7 ?_
    exact zA_tr (L := [some (zrv x0), some (zrv x1), some (zrv x2), some (zrv x3), some (zrv x4), some (zI x5), none, none, none]) rfl rfl (zmS291_73 hk16 _ _ _ _ _ _ _ _ _ _ _ _ _ _ _ _ _ _ H)
  · refine zA_brF (c := (zi h p70 i71 j72) = 0) rfl rfl rfl c77 ?_
    refine zA_push rfl rfl zkk5 ?_
    refine zA_go rfl rfl ?_
    exact zA_tr (L := [some (zrv x0), some (zrv x1), some (zrv x2), some (zrv x3), some (zrv x4), some (zI x5), none, none, none]) rfl rfl (zmS291_73 hk16 _ _ _ _ _ _ _ _ _ _ _ _ _ _ _ _ _ _ H)
def zm291_16 : Nat → zq → zq → zq → zq → zq → Int32 → zH → zRs Int32
  | 0, _, _, _, _, _, _, _ => none
  | n + 1, x0, x1, x2, x3, x4, x5, h =>
    zal x0 fun p21 i22 =>
    if ((nI (zln h p21 i22)) - (10 : Int32)) < x5 then
      some (.inl (1 : Int32), h)
    else
      zai x0 x5 h fun p26 i27 j28 =>
      if ((zi h p26 i27 j28) &&& (63 : Int32)).toInt < 0 ∨ 53 < ((zi h p26 i27 j28) &&& (63 : Int32)).toInt then
        zm291_2349 (zm291_16 n) x0 x1 x2 x3 x4 x5 h
      else if ((zi h p26 i27 j28) &&& (63 : Int32)) = (0 : Int32) then
        zm291_28 (zm291_16 n) x0 x1 x2 x3 x4 x5 h
      else if ((zi h p26 i27 j28) &&& (63 : Int32)) = (1 : Int32) then
        zm291_159 (zm291_16 n) x0 x1 x2 x3 x4 x5 h
      else if ((zi h p26 i27 j28) &&& (63 : Int32)) = (2 : Int32) then
        zm291_204 (zm291_16 n) x0 x1 x2 x3 x4 x5 h
      else if ((zi h p26 i27 j28) &&& (63 : Int32)) = (3 : Int32) then
        zm291_242 (zm291_16 n) x0 x1 x2 x3 x4 x5 h
      else if ((zi h p26 i27 j28) &&& (63 : Int32)) = (4 : Int32) then
        zm291_277 (zm291_16 n) x0 x1 x2 x3 x4 x5 h
      else if ((zi h p26 i27 j28) &&& (63 : Int32)) = (5 : Int32) then
        zm291_284 (zm291_16 n) x0 x1 x2 x3 x4 x5 h
      else if ((zi h p26 i27 j28) &&& (63 : Int32)) = (6 : Int32) then
        zm291_309 (zm291_16 n) x0 x1 x2 x3 x4 x5 h
      else if ((zi h p26 i27 j28) &&& (63 : Int32)) = (7 : Int32) then
        zm291_374 (zm291_16 n) x0 x1 x2 x3 x4 x5 h
      else if ((zi h p26 i27 j28) &&& (63 : Int32)) = (8 : Int32) then
        zm291_419 (zm291_16 n) x0 x1 x2 x3 x4 x5 h
      else if ((zi h p26 i27 j28) &&& (63 : Int32)) = (9 : Int32) then
        zm291_464 (zm291_16 n) x0 x1 x2 x3 x4 x5 h
      else if ((zi h p26 i27 j28) &&& (63 : Int32)) = (10 : Int32) then
        zm291_499 (zm291_16 n) x0 x1 x2 x3 x4 x5 h
      else if ((zi h p26 i27 j28) &&& (63 : Int32)) = (11 : Int32) then
        zm291_534 (zm291_16 n) x0 x1 x2 x3 x4 x5 h
      else if ((zi h p26 i27 j28) &&& (63 : Int32)) = (12 : Int32) then
        zm291_569 (zm291_16 n) x0 x1 x2 x3 x4 x5 h
      else if ((zi h p26 i27 j28) &&& (63 : Int32)) = (13 : Int32) then
        zm291_604 (zm291_16 n) x0 x1 x2 x3 x4 x5 h
      else if ((zi h p26 i27 j28) &&& (63 : Int32)) = (14 : Int32) then
        zm291_639 (zm291_16 n) x0 x1 x2 x3 x4 x5 h
      else if ((zi h p26 i27 j28) &&& (63 : Int32)) = (15 : Int32) then
        zm291_669 (zm291_16 n) x0 x1 x2 x3 x4 x5 h
      else if ((zi h p26 i27 j28) &&& (63 : Int32)) = (16 : Int32) then
        zm291_694 (zm291_16 n) x0 x1 x2 x3 x4 x5 h
      else if ((zi h p26 i27 j28) &&& (63 : Int32)) = (17 : Int32) then
        zm291_701 (zm291_16 n) x0 x1 x2 x3 x4 x5 h
      else if ((zi h p26 i27 j28) &&& (63 : Int32)) = (18 : Int32) then
        zm291_708 (zm291_16 n) x0 x1 x2 x3 x4 x5 h
      else if ((zi h p26 i27 j28) &&& (63 : Int32)) = (19 : Int32) then
        zm291_753 (zm291_16 n) x0 x1 x2 x3 x4 x5 h
      else if ((zi h p26 i27 j28) &&& (63 : Int32)) = (20 : Int32) then
        zm291_798 (zm291_16 n) x0 x1 x2 x3 x4 x5 h
      else if ((zi h p26 i27 j28) &&& (63 : Int32)) = (21 : Int32) then
        zm291_843 (zm291_16 n) x0 x1 x2 x3 x4 x5 h
      else if ((zi h p26 i27 j28) &&& (63 : Int32)) = (22 : Int32) then
        zm291_888 (zm291_16 n) x0 x1 x2 x3 x4 x5 h
      else if ((zi h p26 i27 j28) &&& (63 : Int32)) = (23 : Int32) then
        zm291_933 (zm291_16 n) x0 x1 x2 x3 x4 x5 h
      else if ((zi h p26 i27 j28) &&& (63 : Int32)) = (24 : Int32) then
        zm291_978 (zm291_16 n) x0 x1 x2 x3 x4 x5 h
      else if ((zi h p26 i27 j28) &&& (63 : Int32)) = (25 : Int32) then
        zm291_1023 (zm291_16 n) x0 x1 x2 x3 x4 x5 h
      else if ((zi h p26 i27 j28) &&& (63 : Int32)) = (26 : Int32) then
        zm291_1068 (zm291_16 n) x0 x1 x2 x3 x4 x5 h
      else if ((zi h p26 i27 j28) &&& (63 : Int32)) = (27 : Int32) then
        zm291_1100 (zm291_16 n) x0 x1 x2 x3 x4 x5 h
      else if ((zi h p26 i27 j28) &&& (63 : Int32)) = (28 : Int32) then
        zm291_1142 (zm291_16 n) x0 x1 x2 x3 x4 x5 h
      else if ((zi h p26 i27 j28) &&& (63 : Int32)) = (29 : Int32) then
        zm291_1177 (zm291_16 n) x0 x1 x2 x3 x4 x5 h
      else if ((zi h p26 i27 j28) &&& (63 : Int32)) = (30 : Int32) then
        zm291_1209 (zm291_16 n) x0 x1 x2 x3 x4 x5 h
      else if ((zi h p26 i27 j28) &&& (63 : Int32)) = (31 : Int32) then
        zm291_1254 (zm291_16 n) x0 x1 x2 x3 x4 x5 h
      else if ((zi h p26 i27 j28) &&& (63 : Int32)) = (32 : Int32) then
        zm291_1345 (zm291_16 n) x0 x1 x2 x3 x4 x5 h
      else if ((zi h p26 i27 j28) &&& (63 : Int32)) = (33 : Int32) then
        zm291_1401 (zm291_16 n) x0 x1 x2 x3 x4 x5 h
      else if ((zi h p26 i27 j28) &&& (63 : Int32)) = (34 : Int32) then
        zm291_1446 (zm291_16 n) x0 x1 x2 x3 x4 x5 h
      else if ((zi h p26 i27 j28) &&& (63 : Int32)) = (35 : Int32) then
        zm291_1491 (zm291_16 n) x0 x1 x2 x3 x4 x5 h
      else if ((zi h p26 i27 j28) &&& (63 : Int32)) = (36 : Int32) then
        zm291_1566 (zm291_16 n) x0 x1 x2 x3 x4 x5 h
      else if ((zi h p26 i27 j28) &&& (63 : Int32)) = (37 : Int32) then
        zm291_1604 (zm291_16 n) x0 x1 x2 x3 x4 x5 h
      else if ((zi h p26 i27 j28) &&& (63 : Int32)) = (38 : Int32) then
        zm291_1669 (zm291_16 n) x0 x1 x2 x3 x4 x5 h
      else if ((zi h p26 i27 j28) &&& (63 : Int32)) = (39 : Int32) then
        zm291_1714 (zm291_16 n) x0 x1 x2 x3 x4 x5 h
      else if ((zi h p26 i27 j28) &&& (63 : Int32)) = (40 : Int32) then
        zm291_1762 (zm291_16 n) x0 x1 x2 x3 x4 x5 h
      else if ((zi h p26 i27 j28) &&& (63 : Int32)) = (41 : Int32) then
        zm291_1807 (zm291_16 n) x0 x1 x2 x3 x4 x5 h
      else if ((zi h p26 i27 j28) &&& (63 : Int32)) = (42 : Int32) then
        zm291_1842 (zm291_16 n) x0 x1 x2 x3 x4 x5 h
      else if ((zi h p26 i27 j28) &&& (63 : Int32)) = (43 : Int32) then
        zm291_1877 (zm291_16 n) x0 x1 x2 x3 x4 x5 h
      else if ((zi h p26 i27 j28) &&& (63 : Int32)) = (44 : Int32) then
        zm291_1922 (zm291_16 n) x0 x1 x2 x3 x4 x5 h
      else if ((zi h p26 i27 j28) &&& (63 : Int32)) = (45 : Int32) then
        zm291_1957 (zm291_16 n) x0 x1 x2 x3 x4 x5 h
      else if ((zi h p26 i27 j28) &&& (63 : Int32)) = (46 : Int32) then
        zm291_1999 (zm291_16 n) x0 x1 x2 x3 x4 x5 h
      else if ((zi h p26 i27 j28) &&& (63 : Int32)) = (47 : Int32) then
        zm291_2082 (zm291_16 n) x0 x1 x2 x3 x4 x5 h
      else if ((zi h p26 i27 j28) &&& (63 : Int32)) = (48 : Int32) then
        zm291_2120 (zm291_16 n) x0 x1 x2 x3 x4 x5 h
      else if ((zi h p26 i27 j28) &&& (63 : Int32)) = (49 : Int32) then
        zm291_2152 (zm291_16 n) x0 x1 x2 x3 x4 x5 h
      else if ((zi h p26 i27 j28) &&& (63 : Int32)) = (50 : Int32) then
        zm291_2200 (zm291_16 n) x0 x1 x2 x3 x4 x5 h
      else if ((zi h p26 i27 j28) &&& (63 : Int32)) = (51 : Int32) then
        zm291_2207 (zm291_16 n) x0 x1 x2 x3 x4 x5 h
      else if ((zi h p26 i27 j28) &&& (63 : Int32)) = (52 : Int32) then
        zm291_2282 (zm291_16 n) x0 x1 x2 x3 x4 x5 h
      else if ((zi h p26 i27 j28) &&& (63 : Int32)) = (53 : Int32) then
        zm291_2304 (zm291_16 n) x0 x1 x2 x3 x4 x5 h
      else none
theorem zmS291_16 : ∀ (n : Nat) (x0 : zq) (x1 : zq) (x2 : zq) (x3 : zq) (x4 : zq) (x5 : Int32) (h : zH) (r : Int32 ⊕ Nat) (h' : zH), zm291_16 n x0 x1 x2 x3 x4 x5 h = some (r, h') → zAt 291 16 [some (zrv x0), some (zrv x1), some (zrv x2), some (zrv x3), some (zrv x4), some (zI x5), none, none, none] [] h (zoI r) h' := by
  intro n
  induction n with
  | zero => intro x0 x1 x2 x3 x4 x5 h r h' H; cases H
  | succ n ih =>
    intro x0 x1 x2 x3 x4 x5 h r h' H
    unfold zm291_16 at H
    refine zA_ld rfl rfl rfl ?_
    refine zA_aldn rfl rfl rfl ?_
    obtain ⟨p21, i22, e23, c24, H⟩ := zal_e H
    refine zA_len rfl rfl e23 c24 ?_
    refine zA_push rfl rfl zkk27 ?_
    refine zA_st (st' := [zI ((nI (zln h p21 i22)) - (10 : Int32)), zI x5]) rfl rfl rfl rfl ?_
    rcases zite_e H with ⟨c25, H⟩ | ⟨c25, H⟩
    · refine zA_brT (c := ((nI (zln h p21 i22)) - (10 : Int32)) < x5) rfl rfl rfl c25 ?_
      refine zA_tr (L := [none, none, none, none, none, none, none, none, none]) rfl rfl ?_
      refine zA_push rfl rfl zkk5 ?_
      cases H
      exact zA_ret rfl (zret_Z (by decide))
    · refine zA_brF (c := ((nI (zln h p21 i22)) - (10 : Int32)) < x5) rfl rfl rfl c25 ?_
      refine zA_aldn rfl rfl rfl ?_
      refine zA_ld rfl rfl rfl ?_
      obtain ⟨p26, i27, j28, e29, c30, c31, e32, H⟩ := zai_e H
      refine zA_ial rfl rfl e29 c30 c31 e32 ?_
      refine zA_push rfl rfl zkk34 ?_
      refine zA_st (st' := [zI ((zi h p26 i27 j28) &&& (63 : Int32))]) rfl rfl rfl rfl ?_
      rcases zite_e H with ⟨c33, H⟩ | ⟨c33, H⟩
      · refine zA_swD rfl rfl c33 ?_
        exact zA_tr (L := [some (zrv x0), some (zrv x1), some (zrv x2), some (zrv x3), some (zrv x4), some (zI x5), none, none, none]) rfl rfl (zmS291_2349 ih _ _ _ _ _ _ _ _ _ H)
      · rcases zite_e H with ⟨c87, H⟩ | ⟨c87, H⟩
        · refine zA_swT (j := 0) (t := 28) rfl rfl c33 (by rw [c87]; decide) rfl ?_
          exact zA_tr (L := [some (zrv x0), some (zrv x1), some (zrv x2), some (zrv x3), some (zrv x4), some (zI x5), none, none, none]) rfl rfl (zmS291_28 ih _ _ _ _ _ _ _ _ _ H)
        · rcases zite_e H with ⟨c86, H⟩ | ⟨c86, H⟩
          · refine zA_swT (j := 1) (t := 159) rfl rfl c33 (by rw [c86]; decide) rfl ?_
            exact zA_tr (L := [some (zrv x0), some (zrv x1), some (zrv x2), some (zrv x3), some (zrv x4), some (zI x5), none, none, none]) rfl rfl (zmS291_159 ih _ _ _ _ _ _ _ _ _ H)
          · rcases zite_e H with ⟨c85, H⟩ | ⟨c85, H⟩
            · refine zA_swT (j := 2) (t := 204) rfl rfl c33 (by rw [c85]; decide) rfl ?_
              exact zA_tr (L := [some (zrv x0), some (zrv x1), some (zrv x2), some (zrv x3), some (zrv x4), some (zI x5), none, none, none]) rfl rfl (zmS291_204 ih _ _ _ _ _ _ _ _ _ H)
            · rcases zite_e H with ⟨c84, H⟩ | ⟨c84, H⟩
              · refine zA_swT (j := 3) (t := 242) rfl rfl c33 (by rw [c84]; decide) rfl ?_
                exact zA_tr (L := [some (zrv x0), some (zrv x1), some (zrv x2), some (zrv x3), some (zrv x4), some (zI x5), none, none, none]) rfl rfl (zmS291_242 ih _ _ _ _ _ _ _ _ _ H)
              · rcases zite_e H with ⟨c83, H⟩ | ⟨c83, H⟩
                · refine zA_swT (j := 4) (t := 277) rfl rfl c33 (by rw [c83]; decide) rfl ?_
                  exact zA_tr (L := [some (zrv x0), some (zrv x1), some (zrv x2), some (zrv x3), some (zrv x4), some (zI x5), none, none, none]) rfl rfl (zmS291_277 ih _ _ _ _ _ _ _ _ _ H)
                · rcases zite_e H with ⟨c82, H⟩ | ⟨c82, H⟩
                  · refine zA_swT (j := 5) (t := 284) rfl rfl c33 (by rw [c82]; decide) rfl ?_
                    exact zA_tr (L := [some (zrv x0), some (zrv x1), some (zrv x2), some (zrv x3), some (zrv x4), some (zI x5), none, none, none]) rfl rfl (zmS291_284 ih _ _ _ _ _ _ _ _ _ H)
                  · rcases zite_e H with ⟨c81, H⟩ | ⟨c81, H⟩
                    · refine zA_swT (j := 6) (t := 309) rfl rfl c33 (by rw [c81]; decide) rfl ?_
                      exact zA_tr (L := [some (zrv x0), some (zrv x1), some (zrv x2), some (zrv x3), some (zrv x4), some (zI x5), none, none, none]) rfl rfl (zmS291_309 ih _ _ _ _ _ _ _ _ _ H)
                    · rcases zite_e H with ⟨c80, H⟩ | ⟨c80, H⟩
                      · refine zA_swT (j := 7) (t := 374) rfl rfl c33 (by rw [c80]; decide) rfl ?_
                        exact zA_tr (L := [some (zrv x0), some (zrv x1), some (zrv x2), some (zrv x3), some (zrv x4), some (zI x5), none, none, none]) rfl rfl (zmS291_374 ih _ _ _ _ _ _ _ _ _ H)
                      · rcases zite_e H with ⟨c79, H⟩ | ⟨c79, H⟩
                        · refine zA_swT (j := 8) (t := 419) rfl rfl c33 (by rw [c79]; decide) rfl ?_
                          exact zA_tr (L := [some (zrv x0), some (zrv x1), some (zrv x2), some (zrv x3), some (zrv x4), some (zI x5), none, none, none]) rfl rfl (zmS291_419 ih _ _ _ _ _ _ _ _ _ H)
                        · rcases zite_e H with ⟨c78, H⟩ | ⟨c78, H⟩
                          · refine zA_swT (j := 9) (t := 464) rfl rfl c33 (by rw [c78]; decide) rfl ?_
                            exact zA_tr (L := [some (zrv x0), some (zrv x1), some (zrv x2), some (zrv x3), some (zrv x4), some (zI x5), none, none, none]) rfl rfl (zmS291_464 ih _ _ _ _ _ _ _ _ _ H)
                          · rcases zite_e H with ⟨c77, H⟩ | ⟨c77, H⟩
                            · refine zA_swT (j := 10) (t := 499) rfl rfl c33 (by rw [c77]; decide) rfl ?_
                              exact zA_tr (L := [some (zrv x0), some (zrv x1), some (zrv x2), some (zrv x3), some (zrv x4), some (zI x5), none, none, none]) rfl rfl (zmS291_499 ih _ _ _ _ _ _ _ _ _ H)
                            · rcases zite_e H with ⟨c76, H⟩ | ⟨c76, H⟩
                              · refine zA_swT (j := 11) (t := 534) rfl rfl c33 (by rw [c76]; decide) rfl ?_
                                exact zA_tr (L := [some (zrv x0), some (zrv x1), some (zrv x2), some (zrv x3), some (zrv x4), some (zI x5), none, none, none]) rfl rfl (zmS291_534 ih _ _ _ _ _ _ _ _ _ H)
                              · rcases zite_e H with ⟨c75, H⟩ | ⟨c75, H⟩
                                · refine zA_swT (j := 12) (t := 569) rfl rfl c33 (by rw [c75]; decide) rfl ?_
                                  exact zA_tr (L := [some (zrv x0), some (zrv x1), some (zrv x2), some (zrv x3), some (zrv x4), some (zI x5), none, none, none]) rfl rfl (zmS291_569 ih _ _ _ _ _ _ _ _ _ H)
                                · rcases zite_e H with ⟨c74, H⟩ | ⟨c74, H⟩
                                  · refine zA_swT (j := 13) (t := 604) rfl rfl c33 (by rw [c74]; decide) rfl ?_
                                    exact zA_tr (L := [some (zrv x0), some (zrv x1), some (zrv x2), some (zrv x3), some (zrv x4), some (zI x5), none, none, none]) rfl rfl (zmS291_604 ih _ _ _ _ _ _ _ _ _ H)
                                  · rcases zite_e H with ⟨c73, H⟩ | ⟨c73, H⟩
                                    · refine zA_swT (j := 14) (t := 639) rfl rfl c33 (by rw [c73]; decide) rfl ?_
                                      exact zA_tr (L := [some (zrv x0), some (zrv x1), some (zrv x2), some (zrv x3), some (zrv x4), some (zI x5), none, none, none]) rfl rfl (zmS291_639 ih _ _ _ _ _ _ _ _ _ H)
                                    · rcases zite_e H with ⟨c72, H⟩ | ⟨c72, H⟩
                                      · refine zA_swT (j := 15) (t := 669) rfl rfl c33 (by rw [c72]; decide) rfl ?_
                                        exact zA_tr (L := [some (zrv x0), some (zrv x1), some (zrv x2), some (zrv x3), some (zrv x4), some (zI x5), none, none, none]) rfl rfl (zmS291_669 ih _ _ _ _ _ _ _ _ _ H)
                                      · rcases zite_e H with ⟨c71, H⟩ | ⟨c71, H⟩
                                        · refine zA_swT (j := 16) (t := 694) rfl rfl c33 (by rw [c71]; decide) rfl ?_
                                          exact zA_tr (L := [some (zrv x0), some (zrv x1), some (zrv x2), some (zrv x3), some (zrv x4), some (zI x5), none, none, none]) rfl rfl (zmS291_694 ih _ _ _ _ _ _ _ _ _ H)
                                        · rcases zite_e H with ⟨c70, H⟩ | ⟨c70, H⟩
                                          · refine zA_swT (j := 17) (t := 701) rfl rfl c33 (by rw [c70]; decide) rfl ?_
                                            exact zA_tr (L := [some (zrv x0), some (zrv x1), some (zrv x2), some (zrv x3), some (zrv x4), some (zI x5), none, none, none]) rfl rfl (zmS291_701 ih _ _ _ _ _ _ _ _ _ H)
                                          · rcases zite_e H with ⟨c69, H⟩ | ⟨c69, H⟩
                                            · refine zA_swT (j := 18) (t := 708) rfl rfl c33 (by rw [c69]; decide) rfl ?_
                                              exact zA_tr (L := [some (zrv x0), some (zrv x1), some (zrv x2), some (zrv x3), some (zrv x4), some (zI x5), none, none, none]) rfl rfl (zmS291_708 ih _ _ _ _ _ _ _ _ _ H)
                                            · rcases zite_e H with ⟨c68, H⟩ | ⟨c68, H⟩
                                              · refine zA_swT (j := 19) (t := 753) rfl rfl c33 (by rw [c68]; decide) rfl ?_
                                                exact zA_tr (L := [some (zrv x0), some (zrv x1), some (zrv x2), some (zrv x3), some (zrv x4), some (zI x5), none, none, none]) rfl rfl (zmS291_753 ih _ _ _ _ _ _ _ _ _ H)
                                              · rcases zite_e H with ⟨c67, H⟩ | ⟨c67, H⟩
                                                · refine zA_swT (j := 20) (t := 798) rfl rfl c33 (by rw [c67]; decide) rfl ?_
                                                  exact zA_tr (L := [some (zrv x0), some (zrv x1), some (zrv x2), some (zrv x3), some (zrv x4), some (zI x5), none, none, none]) rfl rfl (zmS291_798 ih _ _ _ _ _ _ _ _ _ H)
                                                · rcases zite_e H with ⟨c66, H⟩ | ⟨c66, H⟩
                                                  · refine zA_swT (j := 21) (t := 843) rfl rfl c33 (by rw [c66]; decide) rfl ?_
                                                    exact zA_tr (L := [some (zrv x0), some (zrv x1), some (zrv x2), some (zrv x3), some (zrv x4), some (zI x5), none, none, none]) rfl rfl (zmS291_843 ih _ _ _ _ _ _ _ _ _ H)
                                                  · rcases zite_e H with ⟨c65, H⟩ | ⟨c65, H⟩
                                                    · refine zA_swT (j := 22) (t := 888) rfl rfl c33 (by rw [c65]; decide) rfl ?_
                                                      exact zA_tr (L := [some (zrv x0), some (zrv x1), some (zrv x2), some (zrv x3), some (zrv x4), some (zI x5), none, none, none]) rfl rfl (zmS291_888 ih _ _ _ _ _ _ _ _ _ H)
                                                    · rcases zite_e H with ⟨c64, H⟩ | ⟨c64, H⟩
                                                      · refine zA_swT (j := 23) (t := 933) rfl rfl c33 (by rw [c64]; decide) rfl ?_
                                                        exact zA_tr (L := [some (zrv x0), some (zrv x1), some (zrv x2), some (zrv x3), some (zrv x4), some (zI x5), none, none, none]) rfl rfl (zmS291_933 ih _ _ _ _ _ _ _ _ _ H)
                                                      · rcases zite_e H with ⟨c63, H⟩ | ⟨c63, H⟩
                                                        · refine zA_swT (j := 24) (t := 978) rfl rfl c33 (by rw [c63]; decide) rfl ?_
                                                          exact zA_tr (L := [some (zrv x0), some (zrv x1), some (zrv x2), some (zrv x3), some (zrv x4), some (zI x5), none, none, none]) rfl rfl (zmS291_978 ih _ _ _ _ _ _ _ _ _ H)
                                                        · rcases zite_e H with ⟨c62, H⟩ | ⟨c62, H⟩
                                                          · refine zA_swT (j := 25) (t := 1023) rfl rfl c33 (by rw [c62]; decide) rfl ?_
                                                            exact zA_tr (L := [some (zrv x0), some (zrv x1), some (zrv x2), some (zrv x3), some (zrv x4), some (zI x5), none, none, none]) rfl rfl (zmS291_1023 ih _ _ _ _ _ _ _ _ _ H)
                                                          · rcases zite_e H with ⟨c61, H⟩ | ⟨c61, H⟩
                                                            · refine zA_swT (j := 26) (t := 1068) rfl rfl c33 (by rw [c61]; decide) rfl ?_
                                                              exact zA_tr (L := [some (zrv x0), some (zrv x1), some (zrv x2), some (zrv x3), some (zrv x4), some (zI x5), none, none, none]) rfl rfl (zmS291_1068 ih _ _ _ _ _ _ _ _ _ H)
                                                            · rcases zite_e H with ⟨c60, H⟩ | ⟨c60, H⟩
                                                              · refine zA_swT (j := 27) (t := 1100) rfl rfl c33 (by rw [c60]; decide) rfl ?_
                                                                exact zA_tr (L := [some (zrv x0), some (zrv x1), some (zrv x2), some (zrv x3), some (zrv x4), some (zI x5), none, none, none]) rfl rfl (zmS291_1100 ih _ _ _ _ _ _ _ _ _ H)
                                                              · rcases zite_e H with ⟨c59, H⟩ | ⟨c59, H⟩
                                                                · refine zA_swT (j := 28) (t := 1142) rfl rfl c33 (by rw [c59]; decide) rfl ?_
                                                                  exact zA_tr (L := [some (zrv x0), some (zrv x1), some (zrv x2), some (zrv x3), some (zrv x4), some (zI x5), none, none, none]) rfl rfl (zmS291_1142 ih _ _ _ _ _ _ _ _ _ H)
                                                                · rcases zite_e H with ⟨c58, H⟩ | ⟨c58, H⟩
                                                                  · refine zA_swT (j := 29) (t := 1177) rfl rfl c33 (by rw [c58]; decide) rfl ?_
                                                                    exact zA_tr (L := [some (zrv x0), some (zrv x1), some (zrv x2), some (zrv x3), some (zrv x4), some (zI x5), none, none, none]) rfl rfl (zmS291_1177 ih _ _ _ _ _ _ _ _ _ H)
                                                                  · rcases zite_e H with ⟨c57, H⟩ | ⟨c57, H⟩
                                                                    · refine zA_swT (j := 30) (t := 1209) rfl rfl c33 (by rw [c57]; decide) rfl ?_
                                                                      exact zA_tr (L := [some (zrv x0), some (zrv x1), some (zrv x2), some (zrv x3), some (zrv x4), some (zI x5), none, none, none]) rfl rfl (zmS291_1209 ih _ _ _ _ _ _ _ _ _ H)
                                                                    · rcases zite_e H with ⟨c56, H⟩ | ⟨c56, H⟩
                                                                      · refine zA_swT (j := 31) (t := 1254) rfl rfl c33 (by rw [c56]; decide) rfl ?_
                                                                        exact zA_tr (L := [some (zrv x0), some (zrv x1), some (zrv x2), some (zrv x3), some (zrv x4), some (zI x5), none, none, none]) rfl rfl (zmS291_1254 ih _ _ _ _ _ _ _ _ _ H)
                                                                      · rcases zite_e H with ⟨c55, H⟩ | ⟨c55, H⟩
                                                                        · refine zA_swT (j := 32) (t := 1345) rfl rfl c33 (by rw [c55]; decide) rfl ?_
                                                                          exact zA_tr (L := [some (zrv x0), some (zrv x1), some (zrv x2), some (zrv x3), some (zrv x4), some (zI x5), none, none, none]) rfl rfl (zmS291_1345 ih _ _ _ _ _ _ _ _ _ H)
                                                                        · rcases zite_e H with ⟨c54, H⟩ | ⟨c54, H⟩
                                                                          · refine zA_swT (j := 33) (t := 1401) rfl rfl c33 (by rw [c54]; decide) rfl ?_
                                                                            exact zA_tr (L := [some (zrv x0), some (zrv x1), some (zrv x2), some (zrv x3), some (zrv x4), some (zI x5), none, none, none]) rfl rfl (zmS291_1401 ih _ _ _ _ _ _ _ _ _ H)
                                                                          · rcases zite_e H with ⟨c53, H⟩ | ⟨c53, H⟩
                                                                            · refine zA_swT (j := 34) (t := 1446) rfl rfl c33 (by rw [c53]; decide) rfl ?_
                                                                              exact zA_tr (L := [some (zrv x0), some (zrv x1), some (zrv x2), some (zrv x3), some (zrv x4), some (zI x5), none, none, none]) rfl rfl (zmS291_1446 ih _ _ _ _ _ _ _ _ _ H)
                                                                            · rcases zite_e H with ⟨c52, H⟩ | ⟨c52, H⟩
                                                                              · refine zA_swT (j := 35) (t := 1491) rfl rfl c33 (by rw [c52]; decide) rfl ?_
                                                                                exact zA_tr (L := [some (zrv x0), some (zrv x1), some (zrv x2), some (zrv x3), some (zrv x4), some (zI x5), none, none, none]) rfl rfl (zmS291_1491 ih _ _ _ _ _ _ _ _ _ H)
                                                                              · rcases zite_e H with ⟨c51, H⟩ | ⟨c51, H⟩
                                                                                · refine zA_swT (j := 36) (t := 1566) rfl rfl c33 (by rw [c51]; decide) rfl ?_
                                                                                  exact zA_tr (L := [some (zrv x0), some (zrv x1), some (zrv x2), some (zrv x3), some (zrv x4), some (zI x5), none, none, none]) rfl rfl (zmS291_1566 ih _ _ _ _ _ _ _ _ _ H)
                                                                                · rcases zite_e H with ⟨c50, H⟩ | ⟨c50, H⟩
                                                                                  · refine zA_swT (j := 37) (t := 1604) rfl rfl c33 (by rw [c50]; decide) rfl ?_
                                                                                    exact zA_tr (L := [some (zrv x0), some (zrv x1), some (zrv x2), some (zrv x3), some (zrv x4), some (zI x5), none, none, none]) rfl rfl (zmS291_1604 ih _ _ _ _ _ _ _ _ _ H)
                                                                                  · rcases zite_e H with ⟨c49, H⟩ | ⟨c49, H⟩
                                                                                    · refine zA_swT (j := 38) (t := 1669) rfl rfl c33 (by rw [c49]; decide) rfl ?_
                                                                                      exact zA_tr (L := [some (zrv x0), some (zrv x1), some (zrv x2), some (zrv x3), some (zrv x4), some (zI x5), none, none, none]) rfl rfl (zmS291_1669 ih _ _ _ _ _ _ _ _ _ H)
                                                                                    · rcases zite_e H with ⟨c48, H⟩ | ⟨c48, H⟩
                                                                                      · refine zA_swT (j := 39) (t := 1714) rfl rfl c33 (by rw [c48]; decide) rfl ?_
                                                                                        exact zA_tr (L := [some (zrv x0), some (zrv x1), some (zrv x2), some (zrv x3), some (zrv x4), some (zI x5), none, none, none]) rfl rfl (zmS291_1714 ih _ _ _ _ _ _ _ _ _ H)
                                                                                      · rcases zite_e H with ⟨c47, H⟩ | ⟨c47, H⟩
                                                                                        · refine zA_swT (j := 40) (t := 1762) rfl rfl c33 (by rw [c47]; decide) rfl ?_
                                                                                          exact zA_tr (L := [some (zrv x0), some (zrv x1), some (zrv x2), some (zrv x3), some (zrv x4), some (zI x5), none, none, none]) rfl rfl (zmS291_1762 ih _ _ _ _ _ _ _ _ _ H)
                                                                                        · rcases zite_e H with ⟨c46, H⟩ | ⟨c46, H⟩
                                                                                          · refine zA_swT (j := 41) (t := 1807) rfl rfl c33 (by rw [c46]; decide) rfl ?_
                                                                                            exact zA_tr (L := [some (zrv x0), some (zrv x1), some (zrv x2), some (zrv x3), some (zrv x4), some (zI x5), none, none, none]) rfl rfl (zmS291_1807 ih _ _ _ _ _ _ _ _ _ H)
                                                                                          · rcases zite_e H with ⟨c45, H⟩ | ⟨c45, H⟩
                                                                                            · refine zA_swT (j := 42) (t := 1842) rfl rfl c33 (by rw [c45]; decide) rfl ?_
                                                                                              exact zA_tr (L := [some (zrv x0), some (zrv x1), some (zrv x2), some (zrv x3), some (zrv x4), some (zI x5), none, none, none]) rfl rfl (zmS291_1842 ih _ _ _ _ _ _ _ _ _ H)
                                                                                            · rcases zite_e H with ⟨c44, H⟩ | ⟨c44, H⟩
                                                                                              · refine zA_swT (j := 43) (t := 1877) rfl rfl c33 (by rw [c44]; decide) rfl ?_
                                                                                                exact zA_tr (L := [some (zrv x0), some (zrv x1), some (zrv x2), some (zrv x3), some (zrv x4), some (zI x5), none, none, none]) rfl rfl (zmS291_1877 ih _ _ _ _ _ _ _ _ _ H)
                                                                                              · rcases zite_e H with ⟨c43, H⟩ | ⟨c43, H⟩
                                                                                                · refine zA_swT (j := 44) (t := 1922) rfl rfl c33 (by rw [c43]; decide) rfl ?_
                                                                                                  exact zA_tr (L := [some (zrv x0), some (zrv x1), some (zrv x2), some (zrv x3), some (zrv x4), some (zI x5), none, none, none]) rfl rfl (zmS291_1922 ih _ _ _ _ _ _ _ _ _ H)
                                                                                                · rcases zite_e H with ⟨c42, H⟩ | ⟨c42, H⟩
                                                                                                  · refine zA_swT (j := 45) (t := 1957) rfl rfl c33 (by rw [c42]; decide) rfl ?_
                                                                                                    exact zA_tr (L := [some (zrv x0), some (zrv x1), some (zrv x2), some (zrv x3), some (zrv x4), some (zI x5), none, none, none]) rfl rfl (zmS291_1957 ih _ _ _ _ _ _ _ _ _ H)
                                                                                                  · rcases zite_e H with ⟨c41, H⟩ | ⟨c41, H⟩
                                                                                                    · refine zA_swT (j := 46) (t := 1999) rfl rfl c33 (by rw [c41]; decide) rfl ?_
                                                                                                      exact zA_tr (L := [some (zrv x0), some (zrv x1), some (zrv x2), some (zrv x3), some (zrv x4), some (zI x5), none, none, none]) rfl rfl (zmS291_1999 ih _ _ _ _ _ _ _ _ _ H)
                                                                                                    · rcases zite_e H with ⟨c40, H⟩ | ⟨c40, H⟩
                                                                                                      · refine zA_swT (j := 47) (t := 2082) rfl rfl c33 (by rw [c40]; decide) rfl ?_
                                                                                                        exact zA_tr (L := [some (zrv x0), some (zrv x1), some (zrv x2), some (zrv x3), some (zrv x4), some (zI x5), none, none, none]) rfl rfl (zmS291_2082 ih _ _ _ _ _ _ _ _ _ H)
                                                                                                      · rcases zite_e H with ⟨c39, H⟩ | ⟨c39, H⟩
                                                                                                        · refine zA_swT (j := 48) (t := 2120) rfl rfl c33 (by rw [c39]; decide) rfl ?_
                                                                                                          exact zA_tr (L := [some (zrv x0), some (zrv x1), some (zrv x2), some (zrv x3), some (zrv x4), some (zI x5), none, none, none]) rfl rfl (zmS291_2120 ih _ _ _ _ _ _ _ _ _ H)
                                                                                                        · rcases zite_e H with ⟨c38, H⟩ | ⟨c38, H⟩
                                                                                                          · refine zA_swT (j := 49) (t := 2152) rfl rfl c33 (by rw [c38]; decide) rfl ?_
                                                                                                            exact zA_tr (L := [some (zrv x0), some (zrv x1), some (zrv x2), some (zrv x3), some (zrv x4), some (zI x5), none, none, none]) rfl rfl (zmS291_2152 ih _ _ _ _ _ _ _ _ _ H)
                                                                                                          · rcases zite_e H with ⟨c37, H⟩ | ⟨c37, H⟩
                                                                                                            · refine zA_swT (j := 50) (t := 2200) rfl rfl c33 (by rw [c37]; decide) rfl ?_
                                                                                                              exact zA_tr (L := [some (zrv x0), some (zrv x1), some (zrv x2), some (zrv x3), some (zrv x4), some (zI x5), none, none, none]) rfl rfl (zmS291_2200 ih _ _ _ _ _ _ _ _ _ H)
                                                                                                            · rcases zite_e H with ⟨c36, H⟩ | ⟨c36, H⟩
                                                                                                              · refine zA_swT (j := 51) (t := 2207) rfl rfl c33 (by rw [c36]; decide) rfl ?_
                                                                                                                exact zA_tr (L := [some (zrv x0), some (zrv x1), some (zrv x2), some (zrv x3), some (zrv x4), some (zI x5), none, none, none]) rfl rfl (zmS291_2207 ih _ _ _ _ _ _ _ _ _ H)
                                                                                                              · rcases zite_e H with ⟨c35, H⟩ | ⟨c35, H⟩
                                                                                                                · refine zA_swT (j := 52) (t := 2282) rfl rfl c33 (by rw [c35]; decide) rfl ?_
                                                                                                                  exact zA_tr (L := [some (zrv x0), some (zrv x1), some (zrv x2), some (zrv x3), some (zrv x4), some (zI x5), none, none, none]) rfl rfl (zmS291_2282 ih _ _ _ _ _ _ _ _ _ H)
                                                                                                                · rcases zite_e H with ⟨c34, H⟩ | ⟨c34, H⟩
                                                                                                                  · refine zA_swT (j := 53) (t := 2304) rfl rfl c33 (by rw [c34]; decide) rfl ?_
                                                                                                                    exact zA_tr (L := [some (zrv x0), some (zrv x1), some (zrv x2), some (zrv x3), some (zrv x4), some (zI x5), none, none, none]) rfl rfl (zmS291_2304 ih _ _ _ _ _ _ _ _ _ H)
                                                                                                                  · cases H
-- 291: ReleaseHouseLaw.law([I)Z
def zm291 (x0 : zq) (h : zH) : zRs Int32 :=
  zlet (znw h 12 0 18) fun h21 =>
  zob 11 (some (12, zct h 12)) fun p23 i24 =>
  zb2 (zm39 (some (12, zct h 12)) h21) fun _ h27 =>
  zlet (some (12, zct h 12)) fun x28 =>
  zlet (znw h27 13 0 78) fun h30 =>
  zob 12 (some (13, zct h27 13)) fun p32 i33 =>
  zb2 (zm136 (some (13, zct h27 13)) h30) fun _ h36 =>
  zlet (some (13, zct h27 13)) fun x37 =>
  if (1 : Int32) < 0 ∨ 100000 < (1 : Int32).toNatClampNeg then none else
  zlet (znw h36 38 (1 : Int32).toNatClampNeg (1 : Int32).toNatClampNeg) fun h39 =>
  zlet (some (38, zct h36 38)) fun x41 =>
  if (1 : Int32) < 0 ∨ 100000 < (1 : Int32).toNatClampNeg then none else
  zlet (znw h39 39 (1 : Int32).toNatClampNeg (1 : Int32).toNatClampNeg) fun h43 =>
  zlet (some (39, zct h39 39)) fun x45 =>
  zm291_16 zN0 x0 x28 x37 x41 x45 (0 : Int32) h43
theorem zmS291 {x0 : zq} {h : zH} {r : Int32 ⊕ Nat} {h' : zH} (H : zm291 x0 h = some (r, h')) : zAt 291 0 [some (zrv x0), none, none, none, none, none, none, none, none] [] h (zoI r) h' := by
  unfold zm291 at H
  obtain ⟨h21, e22, H⟩ := zlet_e H
  refine zA_new (n := 18) rfl rfl (fun _ _ _ _ => rfl) e22 ?_
  refine zA_dup rfl rfl (zcat_rv _) ?_
  obtain ⟨p23, i24, e25, c26, H⟩ := zob_e H
  obtain ⟨u48, h27, C, H⟩ := zb2_e H
  refine zA_callU (as := [zrv (some (12, zct h 12))]) (st' := [zrv (some (12, zct h 12))]) rfl rfl rfl (zrcv_Q e25 c26) rfl (zmE39 _) rfl (zmS39 C) ?_
  obtain ⟨x28, e29, H⟩ := zlet_e H
  refine zA_astn2 rfl rfl e29 (zset1 (L' := [some (zrv x0), some (zrv x28), none, none, none, none, none, none, none]) (zcat_rv _) rfl (zpcV rfl (zcat_rv _))) ?_
  obtain ⟨h30, e31, H⟩ := zlet_e H
  refine zA_new (n := 78) rfl rfl (fun _ _ _ _ => rfl) e31 ?_
  refine zA_dup rfl rfl (zcat_rv _) ?_
  obtain ⟨p32, i33, e34, c35, H⟩ := zob_e H
  obtain ⟨u47, h36, C, H⟩ := zb2_e H
  refine zA_callU (as := [zrv (some (13, zct h27 13))]) (st' := [zrv (some (13, zct h27 13))]) rfl rfl rfl (zrcv_Q e34 c35) rfl (zmE136 _) rfl (zmS136 C) ?_
  obtain ⟨x37, e38, H⟩ := zlet_e H
  refine zA_astn2 rfl rfl e38 (zset1 (L' := [some (zrv x0), some (zrv x28), some (zrv x37), none, none, none, none, none, none]) (zcat_rv _) rfl (zpcV rfl (zcat_rv _))) ?_
  refine zA_push rfl rfl zkk5 ?_
  rcases zite_e H with ⟨_, H⟩ | ⟨ch39, H⟩
  · cases H
  obtain ⟨h39, e40, H⟩ := zlet_e H
  refine zA_newA rfl rfl (fun _ _ _ _ _ => rfl) ch39 e40 ?_
  obtain ⟨x41, e42, H⟩ := zlet_e H
  refine zA_astn2 rfl rfl e42 (zset1 (L' := [some (zrv x0), some (zrv x28), some (zrv x37), some (zrv x41), none, none, none, none, none]) (zcat_rv _) rfl (zpcV rfl (zcat_rv _))) ?_
  refine zA_push rfl rfl zkk5 ?_
  rcases zite_e H with ⟨_, H⟩ | ⟨ch43, H⟩
  · cases H
  obtain ⟨h43, e44, H⟩ := zlet_e H
  refine zA_newA rfl rfl (fun _ _ _ _ _ => rfl) ch43 e44 ?_
  obtain ⟨x45, e46, H⟩ := zlet_e H
  refine zA_ast2 rfl rfl e46 (zset1 (L' := [some (zrv x0), some (zrv x28), some (zrv x37), some (zrv x41), some (zrv x45), none, none, none, none]) (zcat_rv _) rfl (zpcV rfl (zcat_rv _))) ?_
  refine zA_push rfl rfl zkk7 ?_
  refine zA_ist2 rfl rfl rfl (zset1 (L' := [some (zrv x0), some (zrv x28), some (zrv x37), some (zrv x41), some (zrv x45), some (zI (0 : Int32)), none, none, none]) rfl rfl (zpcV rfl (zcat_rv _))) ?_
  exact zA_tr (L := [some (zrv x0), some (zrv x28), some (zrv x37), some (zrv x41), some (zrv x45), some (zI (0 : Int32)), none, none, none]) rfl rfl (zmS291_16 zN0 _ _ _ _ _ _ _ _ _ H)
theorem zmE291 (x0 : zq) : zpad (zPr.2.1 291).1 (zil [zrv x0]) = [some (zrv x0), none, none, none, none, none, none, none, none] := by
  simp only [zil_A, zil_I, zil_F, zil_D, zil_N]
  rfl
