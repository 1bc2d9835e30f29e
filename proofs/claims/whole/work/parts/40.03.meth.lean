set_option maxRecDepth 16384
/-! The methods read back (printed by wip/whole/gen/dec.py). -/
def zm169_73 (x0 : zq) (x1 : Int32) (x2 : Int32) (x3 : Int32) (x4 : Int32) (x5 : Int32) (h : zH) : zRs Int32 :=
  zob 12 x0 fun p21 i22 =>
  zb (zm168 x0 x1 x2 x3 x4 h) fun x26 h25 =>
  if x26 = 0 then
    some (.inl (5 : Int32), h25)
  else
    zb (zm151 x0 x5 h25) fun x29 h28 =>
    some (.inl x29, h28)
theorem zmS169_73 : ∀ (x0 : zq) (x1 : Int32) (x2 : Int32) (x3 : Int32) (x4 : Int32) (x5 : Int32) (h : zH) (r : Int32 ⊕ Nat) (h' : zH), zm169_73 x0 x1 x2 x3 x4 x5 h = some (r, h') → zAt 169 73 [some (zrv x0), some (zI x1), some (zI x2), some (zI x3), some (zI x4), some (zI x5), none, none, none] [] h (zoI r) h' := by
  intro x0 x1 x2 x3 x4 x5 h r h' H
  unfold zm169_73 at H
  refine zA_aldn rfl rfl rfl ?_
  refine zA_ldn rfl rfl rfl ?_
  refine zA_ldn rfl rfl rfl ?_
  refine zA_ldn rfl rfl rfl ?_
  refine zA_ld rfl rfl rfl ?_
  obtain ⟨p21, i22, e23, c24, H⟩ := zob_e H
  rcases zb_e H with ⟨x26, h25, C, H⟩ | ⟨E, h25, C, H⟩
  · refine zA_callV (as := [zrv x0, zI x1, zI x2, zI x3, zI x4]) (st' := []) rfl rfl rfl (zrcv_Q e23 c24) rfl (zmE168 _ _ _ _ _) rfl (zmS168 C) ?_
    rcases zite_e H with ⟨c27, H⟩ | ⟨c27, H⟩
    · refine zA_brT (c := x26 = 0) rfl rfl rfl c27 ?_
      refine zA_tr (L := [none, none, none, none, none, none, none, none, none]) rfl rfl ?_
      refine zA_push rfl rfl zkk20 ?_
      cases H
      exact zA_ret rfl rfl
    · refine zA_brF (c := x26 = 0) rfl rfl rfl c27 ?_
      refine zA_aldn rfl rfl rfl ?_
      refine zA_ld rfl rfl rfl ?_
      rcases zb_e H with ⟨x29, h28, C, H⟩ | ⟨E, h28, C, H⟩
      · refine zA_callV (as := [zrv x0, zI x5]) (st' := []) rfl rfl rfl (zrcv_Q e23 c24) rfl (zmE151 _ _) rfl (zmS151 C) ?_
        refine zA_go rfl rfl ?_
        refine zA_tr (L := [none, none, none, none, none, none, none, none, none]) rfl rfl ?_
        cases H
        exact zA_ret rfl rfl
      · cases H
        exact zA_callX (as := [zrv x0, zI x5]) (st' := []) rfl rfl (zrcv_Q e23 c24) rfl (zmE151 _ _) rfl rfl rfl (zmS151 C)
  · cases H
    exact zA_callX (as := [zrv x0, zI x1, zI x2, zI x3, zI x4]) (st' := []) rfl rfl (zrcv_Q e23 c24) rfl (zmE168 _ _ _ _ _) rfl rfl rfl (zmS168 C)
-- 169: ReleaseHouseModel.bars(IIZI)I
def zm169 (x0 : zq) (x1 : Int32) (x2 : Int32) (x3 : Int32) (x4 : Int32) (h : zH) : zRs Int32 :=
  zob 12 x0 fun p21 i22 =>
  zai (zr h p21 i22 31) x1 h fun p25 i26 j27 =>
  zlet (zi h p25 i26 j27) fun x32 =>
  zai (zr h p21 i22 3) x32 h fun p34 i35 j36 =>
  zlet (zi h p34 i35 j36) fun x41 =>
  zai (zr h p21 i22 12) (((3 : Int32) * x41) + x2) h fun p43 i44 j45 =>
  zlet (zi h p43 i44 j45) fun x50 =>
  zai (zr h p21 i22 13) (((3 : Int32) * x41) + x2) h fun p52 i53 j54 =>
  zlet (zi h p52 i53 j54) fun x59 =>
  if x50 = x32 then
    some (.inl (0 : Int32), h)
  else
    if x50 ≤ x32 then
      zar 2 (zr h p21 i22 50) x41 h fun p63 i64 j65 =>
      if (zi h p63 i64 j65) = 0 then
        zb (zm164 x0 x1 x2 h) fun x72 h71 =>
        if x72 = 0 then
          if x59 = (-1 : Int32) then
            zm169_73 x0 x1 x2 x3 x4 x32 h71
          else
            if x59 = x32 then
              zm169_73 x0 x1 x2 x3 x4 x32 h71
            else
              zb (zm157 x0 x59 h71) fun x77 h76 =>
              if x77 = (-1 : Int32) then
                zm169_73 x0 x1 x2 x3 x4 x32 h76
              else
                zar 2 (zr h76 p21 i22 10) x32 h76 fun p79 i80 j81 =>
                if (zi h76 p79 i80 j81) = 0 then
                  some (.inl (4 : Int32), h76)
                else
                  zar 2 (zr h76 p21 i22 10) x59 h76 fun p87 i88 j89 =>
                  if (zi h76 p87 i88 j89) = 0 then
                    zm169_73 x0 x1 x2 x3 x4 x32 h76
                  else
                    some (.inl (4 : Int32), h76)
        else
          some (.inl (3 : Int32), h71)
      else
        some (.inl (2 : Int32), h)
    else
      some (.inl (0 : Int32), h)
theorem zmS169 {x0 : zq} {x1 : Int32} {x2 : Int32} {x3 : Int32} {x4 : Int32} {h : zH} {r : Int32 ⊕ Nat} {h' : zH} (H : zm169 x0 x1 x2 x3 x4 h = some (r, h')) : zAt 169 0 [some (zrv x0), some (zI x1), some (zI x2), some (zI x3), some (zI x4), none, none, none, none] [] h (zoI r) h' := by
  unfold zm169 at H
  refine zA_aldn rfl rfl rfl ?_
  obtain ⟨p21, i22, e23, c24, H⟩ := zob_e H
  refine zA_gf3 rfl rfl e23 c24 ?_
  refine zA_ldn rfl rfl rfl ?_
  obtain ⟨p25, i26, j27, e28, c29, c30, e31, H⟩ := zai_e H
  refine zA_ial rfl rfl e28 c29 c30 e31 ?_
  obtain ⟨x32, e33, H⟩ := zlet_e H
  refine zA_ist2 rfl rfl e33 (zset1 (L' := [some (zrv x0), some (zI x1), some (zI x2), some (zI x3), some (zI x4), some (zI x32), none, none, none]) rfl rfl (zpcV rfl rfl)) ?_
  refine zA_aldn rfl rfl rfl ?_
  refine zA_gf3 rfl rfl e23 c24 ?_
  refine zA_ld rfl rfl rfl ?_
  obtain ⟨p34, i35, j36, e37, c38, c39, e40, H⟩ := zai_e H
  refine zA_ial rfl rfl e37 c38 c39 e40 ?_
  obtain ⟨x41, e42, H⟩ := zlet_e H
  refine zA_ist2 rfl rfl e42 (zset1 (L' := [some (zrv x0), some (zI x1), some (zI x2), some (zI x3), some (zI x4), some (zI x32), some (zI x41), none, none]) rfl rfl (zpcV rfl rfl)) ?_
  refine zA_aldn rfl rfl rfl ?_
  refine zA_gf3 rfl rfl e23 c24 ?_
  refine zA_push rfl rfl zkk3 ?_
  refine zA_ld rfl rfl rfl ?_
  refine zA_st (st' := [zI ((3 : Int32) * x41), zrv (zr h p21 i22 12)]) rfl rfl rfl rfl ?_
  refine zA_ldn rfl rfl rfl ?_
  refine zA_st (st' := [zI (((3 : Int32) * x41) + x2), zrv (zr h p21 i22 12)]) rfl rfl rfl rfl ?_
  obtain ⟨p43, i44, j45, e46, c47, c48, e49, H⟩ := zai_e H
  refine zA_ial rfl rfl e46 c47 c48 e49 ?_
  obtain ⟨x50, e51, H⟩ := zlet_e H
  refine zA_ist2 rfl rfl e51 (zset1 (L' := [some (zrv x0), some (zI x1), some (zI x2), some (zI x3), some (zI x4), some (zI x32), some (zI x41), some (zI x50), none]) rfl rfl (zpcV rfl rfl)) ?_
  refine zA_aldn rfl rfl rfl ?_
  refine zA_gf3 rfl rfl e23 c24 ?_
  refine zA_push rfl rfl zkk3 ?_
  refine zA_ld rfl rfl rfl ?_
  refine zA_st (st' := [zI ((3 : Int32) * x41), zrv (zr h p21 i22 13)]) rfl rfl rfl rfl ?_
  refine zA_ldn rfl rfl rfl ?_
  refine zA_st (st' := [zI (((3 : Int32) * x41) + x2), zrv (zr h p21 i22 13)]) rfl rfl rfl rfl ?_
  obtain ⟨p52, i53, j54, e55, c56, c57, e58, H⟩ := zai_e H
  refine zA_ial rfl rfl e55 c56 c57 e58 ?_
  obtain ⟨x59, e60, H⟩ := zlet_e H
  refine zA_ist2 rfl rfl e60 (zset1 (L' := [some (zrv x0), some (zI x1), some (zI x2), some (zI x3), some (zI x4), some (zI x32), some (zI x41), some (zI x50), some (zI x59)]) rfl rfl (zpcV rfl rfl)) ?_
  refine zA_ld rfl rfl rfl ?_
  refine zA_ld rfl rfl rfl ?_
  rcases zite_e H with ⟨c61, H⟩ | ⟨c61, H⟩
  · refine zA_brT (c := x50 = x32) rfl rfl rfl c61 ?_
    refine zA_tr (L := [none, none, none, none, none, none, none, none, none]) rfl rfl ?_
    refine zA_push rfl rfl zkk7 ?_
    cases H
    exact zA_ret rfl rfl
  · refine zA_brF (c := x50 = x32) rfl rfl rfl c61 ?_
    refine zA_ld rfl rfl rfl ?_
    refine zA_ld rfl rfl rfl ?_
    rcases zite_e H with ⟨c62, H⟩ | ⟨c62, H⟩
    · refine zA_brT (c := x50 ≤ x32) rfl rfl rfl c62 ?_
      refine zA_tr (L := [some (zrv x0), some (zI x1), some (zI x2), some (zI x3), some (zI x4), some (zI x32), some (zI x41), none, some (zI x59)]) rfl rfl ?_
      refine zA_aldn rfl rfl rfl ?_
      refine zA_gf3 rfl rfl e23 c24 ?_
      refine zA_ld rfl rfl rfl ?_
      obtain ⟨p63, i64, j65, e66, c67, c68, e69, H⟩ := zar_e H
      refine zA_bal rfl rfl e66 c67 c68 e69 ?_
      rcases zite_e H with ⟨c70, H⟩ | ⟨c70, H⟩
      · refine zA_brT (c := (zi h p63 i64 j65) = 0) rfl rfl rfl c70 ?_
        refine zA_tr (L := [some (zrv x0), some (zI x1), some (zI x2), some (zI x3), some (zI x4), some (zI x32), none, none, some (zI x59)]) rfl rfl ?_
        refine zA_aldn rfl rfl rfl ?_
        refine zA_ldn rfl rfl rfl ?_
        refine zA_ldn rfl rfl rfl ?_
        rcases zb_e H with ⟨x72, h71, C, H⟩ | ⟨E, h71, C, H⟩
        · refine zA_callV (as := [zrv x0, zI x1, zI x2]) (st' := []) rfl rfl rfl (zrcv_Q e23 c24) rfl (zmE164 _ _ _) rfl (zmS164 C) ?_
          rcases zite_e H with ⟨c73, H⟩ | ⟨c73, H⟩
          · refine zA_brT (c := x72 = 0) rfl rfl rfl c73 ?_
            refine zA_ld rfl rfl rfl ?_
            refine zA_push rfl rfl zkk6 ?_
            rcases zite_e H with ⟨c74, H⟩ | ⟨c74, H⟩
            · refine zA_brT (c := x59 = (-1 : Int32)) rfl rfl rfl c74 ?_
              exact zA_tr (L := [some (zrv x0), some (zI x1), some (zI x2), some (zI x3), some (zI x4), some (zI x32), none, none, none]) rfl rfl (zmS169_73 _ _ _ _ _ _ _ _ _ H)
            · refine zA_brF (c := x59 = (-1 : Int32)) rfl rfl rfl c74 ?_
              refine zA_ld rfl rfl rfl ?_
              refine zA_ld rfl rfl rfl ?_
              rcases zite_e H with ⟨c75, H⟩ | ⟨c75, H⟩
              · refine zA_brT (c := x59 = x32) rfl rfl rfl c75 ?_
                exact zA_tr (L := [some (zrv x0), some (zI x1), some (zI x2), some (zI x3), some (zI x4), some (zI x32), none, none, none]) rfl rfl (zmS169_73 _ _ _ _ _ _ _ _ _ H)
              · refine zA_brF (c := x59 = x32) rfl rfl rfl c75 ?_
                refine zA_aldn rfl rfl rfl ?_
                refine zA_ld rfl rfl rfl ?_
                rcases zb_e H with ⟨x77, h76, C, H⟩ | ⟨E, h76, C, H⟩
                · refine zA_callV (as := [zrv x0, zI x59]) (st' := []) rfl rfl rfl (zrcv_Q e23 c24) rfl (zmE157 _ _) rfl (zmS157 C) ?_
                  refine zA_push rfl rfl zkk6 ?_
                  rcases zite_e H with ⟨c78, H⟩ | ⟨c78, H⟩
                  · refine zA_brT (c := x77 = (-1 : Int32)) rfl rfl rfl c78 ?_
                    exact zA_tr (L := [some (zrv x0), some (zI x1), some (zI x2), some (zI x3), some (zI x4), some (zI x32), none, none, none]) rfl rfl (zmS169_73 _ _ _ _ _ _ _ _ _ H)
                  · refine zA_brF (c := x77 = (-1 : Int32)) rfl rfl rfl c78 ?_
                    refine zA_aldn rfl rfl rfl ?_
                    refine zA_gf3 rfl rfl e23 c24 ?_
                    refine zA_ld rfl rfl rfl ?_
                    obtain ⟨p79, i80, j81, e82, c83, c84, e85, H⟩ := zar_e H
                    refine zA_bal rfl rfl e82 c83 c84 e85 ?_
                    rcases zite_e H with ⟨c86, H⟩ | ⟨c86, H⟩
                    · refine zA_brT (c := (zi h76 p79 i80 j81) = 0) rfl rfl rfl c86 ?_
                      refine zA_tr (L := [none, none, none, none, none, none, none, none, none]) rfl rfl ?_
                      refine zA_push rfl rfl zkk9 ?_
                      cases H
                      exact zA_ret rfl rfl
                    · refine zA_brF (c := (zi h76 p79 i80 j81) = 0) rfl rfl rfl c86 ?_
                      refine zA_aldn rfl rfl rfl ?_
                      refine zA_gf3 rfl rfl e23 c24 ?_
                      refine zA_ld rfl rfl rfl ?_
                      obtain ⟨p87, i88, j89, e90, c91, c92, e93, H⟩ := zar_e H
                      refine zA_bal rfl rfl e90 c91 c92 e93 ?_
                      rcases zite_e H with ⟨c94, H⟩ | ⟨c94, H⟩
                      · refine zA_brT (c := (zi h76 p87 i88 j89) = 0) rfl rfl rfl c94 ?_
                        exact zA_tr (L := [some (zrv x0), some (zI x1), some (zI x2), some (zI x3), some (zI x4), some (zI x32), none, none, none]) rfl rfl (zmS169_73 _ _ _ _ _ _ _ _ _ H)
                      · refine zA_brF (c := (zi h76 p87 i88 j89) = 0) rfl rfl rfl c94 ?_
                        refine zA_tr (L := [none, none, none, none, none, none, none, none, none]) rfl rfl ?_
                        refine zA_push rfl rfl zkk9 ?_
                        cases H
                        exact zA_ret rfl rfl
                · cases H
                  exact zA_callX (as := [zrv x0, zI x59]) (st' := []) rfl rfl (zrcv_Q e23 c24) rfl (zmE157 _ _) rfl rfl rfl (zmS157 C)
          · refine zA_brF (c := x72 = 0) rfl rfl rfl c73 ?_
            refine zA_push rfl rfl zkk3 ?_
            cases H
            exact zA_ret rfl rfl
        · cases H
          exact zA_callX (as := [zrv x0, zI x1, zI x2]) (st' := []) rfl rfl (zrcv_Q e23 c24) rfl (zmE164 _ _ _) rfl rfl rfl (zmS164 C)
      · refine zA_brF (c := (zi h p63 i64 j65) = 0) rfl rfl rfl c70 ?_
        refine zA_push rfl rfl zkk23 ?_
        cases H
        exact zA_ret rfl rfl
    · refine zA_brF (c := x50 ≤ x32) rfl rfl rfl c62 ?_
      refine zA_tr (L := [none, none, none, none, none, none, none, none, none]) rfl rfl ?_
      refine zA_push rfl rfl zkk7 ?_
      cases H
      exact zA_ret rfl rfl
theorem zmE169 (x0 : zq) (x1 : Int32) (x2 : Int32) (x3 : Int32) (x4 : Int32) : zpad (zPr.2.1 169).1 (zil [zrv x0, zI x1, zI x2, zI x3, zI x4]) = [some (zrv x0), some (zI x1), some (zI x2), some (zI x3), some (zI x4), none, none, none, none] := by
  simp only [zil_A, zil_I, zil_F, zil_D, zil_N]
  rfl
def zm212_4 : Nat → Int32 → Int32 → zH → zRs Int32
  | 0, _, _, _ => none
  | n + 1, x1, x2, h =>
    if x2 ≤ 0 then
      some (.inl x1, h)
    else
      zlet (x1 + (1 : Int32)) fun x22 =>
      zlet (x2 / (2 : Int32)) fun x25 =>
      zm212_4 n x22 x25 h
theorem zmS212_4 : ∀ (n : Nat) (x1 : Int32) (x2 : Int32) (h : zH) (r : Int32 ⊕ Nat) (h' : zH), zm212_4 n x1 x2 h = some (r, h') → zAt 212 4 [none, some (zI x1), some (zI x2)] [] h (zoI r) h' := by
  intro n
  induction n with
  | zero => intro x1 x2 h r h' H; cases H
  | succ n ih =>
    intro x1 x2 h r h' H
    unfold zm212_4 at H
    refine zA_ldn rfl rfl rfl ?_
    rcases zite_e H with ⟨c21, H⟩ | ⟨c21, H⟩
    · refine zA_brT (c := x2 ≤ 0) rfl rfl rfl c21 ?_
      refine zA_tr (L := [none, some (zI x1), none]) rfl rfl ?_
      refine zA_ldn rfl rfl rfl ?_
      cases H
      exact zA_ret rfl rfl
    · refine zA_brF (c := x2 ≤ 0) rfl rfl rfl c21 ?_
      obtain ⟨x22, e23, H⟩ := zlet_e H
      refine zA_inc rfl rfl rfl (e23.trans (congrArg (_ + ·) zkk8)) (zset1 (L' := [none, some (zI x22), some (zI x2)]) rfl rfl (zpcN rfl)) ?_
      refine zA_ldn rfl rfl rfl ?_
      refine zA_push rfl rfl zkk23 ?_
      refine zA_div rfl rfl (by decide) ?_
      obtain ⟨x25, e26, H⟩ := zlet_e H
      refine zA_istn2 rfl rfl e26 (zset1 (L' := [none, some (zI x22), some (zI x25)]) rfl rfl (zpcV rfl rfl)) ?_
      refine zA_go rfl rfl ?_
      exact zA_tr (L := [none, some (zI x22), some (zI x25)]) rfl rfl (ih _ _ _ _ _ H)
-- 212: ReleaseHouseModel.bucket(I)I
def zm212 (x0 : Int32) (h : zH) : zRs Int32 :=
  zm212_4 zN0 (0 : Int32) x0 h
theorem zmS212 {x0 : Int32} {h : zH} {r : Int32 ⊕ Nat} {h' : zH} (H : zm212 x0 h = some (r, h')) : zAt 212 0 [some (zI x0), none, none] [] h (zoI r) h' := by
  unfold zm212 at H
  refine zA_push rfl rfl zkk7 ?_
  refine zA_istn2 rfl rfl rfl (zset1 (L' := [some (zI x0), some (zI (0 : Int32)), none]) rfl rfl (zpcV rfl rfl)) ?_
  refine zA_ldn rfl rfl rfl ?_
  refine zA_istn2 rfl rfl rfl (zset1 (L' := [some (zI x0), some (zI (0 : Int32)), some (zI x0)]) rfl rfl (zpcV rfl rfl)) ?_
  exact zA_tr (L := [none, some (zI (0 : Int32)), some (zI x0)]) rfl rfl (zmS212_4 zN0 _ _ _ _ _ H)
theorem zmE212 (x0 : Int32) : zpad (zPr.2.1 212).1 (zil [zI x0]) = [some (zI x0), none, none] := by
  simp only [zil_A, zil_I, zil_F, zil_D, zil_N]
  rfl
def zm213_38 (k17 : zq → Int32 → Int32 → Int32 → Int32 → zH → zRs Int32) (x0 : zq) (x1 : Int32) (x2 : Int32) (x4 : Int32) (s0 : Int32) (s1 : Int32) (h : zH) : zRs Int32 :=
  zlet (s0 + s1) fun x21 =>
  zlet (x4 + (1 : Int32)) fun x23 =>
  k17 x0 x1 x2 x21 x23 h
theorem zmS213_38 {k17 : zq → Int32 → Int32 → Int32 → Int32 → zH → zRs Int32} (hk17 : ∀ (x0 : zq) (x1 : Int32) (x2 : Int32) (x3 : Int32) (x4 : Int32) (h : zH) (r : Int32 ⊕ Nat) (h' : zH), k17 x0 x1 x2 x3 x4 h = some (r, h') → zAt 213 17 [some (zrv x0), some (zI x1), some (zI x2), some (zI x3), some (zI x4)] [] h (zoI r) h') : ∀ (x0 : zq) (x1 : Int32) (x2 : Int32) (x4 : Int32) (s0 : Int32) (s1 : Int32) (h : zH) (r : Int32 ⊕ Nat) (h' : zH), zm213_38 k17 x0 x1 x2 x4 s0 s1 h = some (r, h') → zAt 213 38 [some (zrv x0), some (zI x1), some (zI x2), none, some (zI x4)] [zI s1, zI s0] h (zoI r) h' := by
  intro x0 x1 x2 x4 s0 s1 h r h' H
  unfold zm213_38 at H
  refine zA_st (st' := [zI (s0 + s1)]) rfl rfl rfl rfl ?_
  obtain ⟨x21, e22, H⟩ := zlet_e H
  refine zA_istn2 rfl rfl e22 (zset1 (L' := [some (zrv x0), some (zI x1), some (zI x2), some (zI x21), some (zI x4)]) rfl rfl (zpcV rfl rfl)) ?_
  obtain ⟨x23, e24, H⟩ := zlet_e H
  refine zA_inc rfl rfl rfl (e24.trans (congrArg (_ + ·) zkk8)) (zset1 (L' := [some (zrv x0), some (zI x1), some (zI x2), some (zI x21), some (zI x23)]) rfl rfl (zpcV rfl rfl)) ?_
  refine zA_go rfl rfl ?_
  exact zA_tr (L := [some (zrv x0), some (zI x1), some (zI x2), some (zI x21), some (zI x23)]) rfl rfl (hk17 _ _ _ _ _ _ _ _ H)
def zm213_17 (k4 : zq → Int32 → Int32 → Int32 → zH → zRs Int32) : Nat → zq → Int32 → Int32 → Int32 → Int32 → zH → zRs Int32
  | 0, _, _, _, _, _, _ => none
  | n + 1, x0, x1, x2, x3, x4, h =>
    zob 12 x0 fun p21 i22 =>
    zai (zr h p21 i22 47) x1 h fun p25 i26 j27 =>
    if (zi h p25 i26 j27) ≤ x4 then
      k4 x0 x1 x2 x3 h
    else
      zai (zr h p21 i22 49) (((600 : Int32) * x1) + x4) h fun p33 i34 j35 =>
      zb (zm212 (zi h p33 i34 j35) h) fun x41 h40 =>
      if x41 = x2 then
        zm213_38 (zm213_17 k4 n) x0 x1 x2 x4 x3 (1 : Int32) h40
      else
        zm213_38 (zm213_17 k4 n) x0 x1 x2 x4 x3 (0 : Int32) h40
theorem zmS213_17 {k4 : zq → Int32 → Int32 → Int32 → zH → zRs Int32} (hk4 : ∀ (x0 : zq) (x1 : Int32) (x2 : Int32) (x3 : Int32) (h : zH) (r : Int32 ⊕ Nat) (h' : zH), k4 x0 x1 x2 x3 h = some (r, h') → zAt 213 4 [some (zrv x0), some (zI x1), some (zI x2), some (zI x3), none] [] h (zoI r) h') : ∀ (n : Nat) (x0 : zq) (x1 : Int32) (x2 : Int32) (x3 : Int32) (x4 : Int32) (h : zH) (r : Int32 ⊕ Nat) (h' : zH), zm213_17 k4 n x0 x1 x2 x3 x4 h = some (r, h') → zAt 213 17 [some (zrv x0), some (zI x1), some (zI x2), some (zI x3), some (zI x4)] [] h (zoI r) h' := by
  intro n
  induction n with
  | zero => intro x0 x1 x2 x3 x4 h r h' H; cases H
  | succ n ih =>
    intro x0 x1 x2 x3 x4 h r h' H
    unfold zm213_17 at H
    refine zA_ld rfl rfl rfl ?_
    refine zA_aldn rfl rfl rfl ?_
    obtain ⟨p21, i22, e23, c24, H⟩ := zob_e H
    refine zA_gf3 rfl rfl e23 c24 ?_
    refine zA_ldn rfl rfl rfl ?_
    obtain ⟨p25, i26, j27, e28, c29, c30, e31, H⟩ := zai_e H
    refine zA_ial rfl rfl e28 c29 c30 e31 ?_
    rcases zite_e H with ⟨c32, H⟩ | ⟨c32, H⟩
    · refine zA_brT (c := (zi h p25 i26 j27) ≤ x4) rfl rfl rfl c32 ?_
      refine zA_tr (L := [some (zrv x0), some (zI x1), some (zI x2), some (zI x3), none]) rfl rfl ?_
      refine zA_go rfl rfl ?_
      exact zA_tr (L := [some (zrv x0), some (zI x1), some (zI x2), some (zI x3), none]) rfl rfl (hk4 _ _ _ _ _ _ _ H)
    · refine zA_brF (c := (zi h p25 i26 j27) ≤ x4) rfl rfl rfl c32 ?_
      refine zA_ldn rfl rfl rfl ?_
      refine zA_aldn rfl rfl rfl ?_
      refine zA_gf3 rfl rfl e23 c24 ?_
      refine zA_push rfl rfl zkk41 ?_
      refine zA_ldn rfl rfl rfl ?_
      refine zA_st (st' := [zI ((600 : Int32) * x1), zrv (zr h p21 i22 49), zI x3]) rfl rfl rfl rfl ?_
      refine zA_ld rfl rfl rfl ?_
      refine zA_st (st' := [zI (((600 : Int32) * x1) + x4), zrv (zr h p21 i22 49), zI x3]) rfl rfl rfl rfl ?_
      obtain ⟨p33, i34, j35, e36, c37, c38, e39, H⟩ := zai_e H
      refine zA_ial rfl rfl e36 c37 c38 e39 ?_
      rcases zb_e H with ⟨x41, h40, C, H⟩ | ⟨E, h40, C, H⟩
      · refine zA_callV (as := [zI (zi h p33 i34 j35)]) (st' := [zI x3]) rfl rfl rfl rfl rfl (zmE212 _) rfl (zmS212 C) ?_
        refine zA_ldn rfl rfl rfl ?_
        rcases zite_e H with ⟨c42, H⟩ | ⟨c42, H⟩
        · refine zA_brF' (c := x41 = x2) rfl rfl rfl c42 ?_
          refine zA_push rfl rfl zkk5 ?_
          refine zA_go rfl rfl ?_
          exact zA_tr (L := [some (zrv x0), some (zI x1), some (zI x2), none, some (zI x4)]) rfl rfl (zmS213_38 ih _ _ _ _ _ _ _ _ _ H)
        · refine zA_brT' (c := x41 = x2) rfl rfl rfl c42 ?_
          refine zA_tr (L := [some (zrv x0), some (zI x1), some (zI x2), none, some (zI x4)]) rfl rfl ?_
          refine zA_push rfl rfl zkk7 ?_
          exact zA_tr (L := [some (zrv x0), some (zI x1), some (zI x2), none, some (zI x4)]) rfl rfl (zmS213_38 ih _ _ _ _ _ _ _ _ _ H)
      · cases H
        exact zA_callX (as := [zI (zi h p33 i34 j35)]) (st' := [zI x3]) rfl rfl rfl rfl (zmE212 _) rfl rfl rfl (zmS212 C)
def zm213_4 : Nat → zq → Int32 → Int32 → Int32 → zH → zRs Int32
  | 0, _, _, _, _, _ => none
  | n + 1, x0, x1, x2, x3, h =>
    zob 12 x0 fun p21 i22 =>
    zai (zr h p21 i22 47) x1 h fun p25 i26 j27 =>
    if ((9 : Int32) * (zi h p25 i26 j27)) ≤ ((10 : Int32) * x3) then
      some (.inl x2, h)
    else
      zlet (x2 + (1 : Int32)) fun x33 =>
      zm213_17 (zm213_4 n) zN0 x0 x1 x33 x3 (0 : Int32) h
theorem zmS213_4 : ∀ (n : Nat) (x0 : zq) (x1 : Int32) (x2 : Int32) (x3 : Int32) (h : zH) (r : Int32 ⊕ Nat) (h' : zH), zm213_4 n x0 x1 x2 x3 h = some (r, h') → zAt 213 4 [some (zrv x0), some (zI x1), some (zI x2), some (zI x3), none] [] h (zoI r) h' := by
  intro n
  induction n with
  | zero => intro x0 x1 x2 x3 h r h' H; cases H
  | succ n ih =>
    intro x0 x1 x2 x3 h r h' H
    unfold zm213_4 at H
    refine zA_push rfl rfl zkk27 ?_
    refine zA_ldn rfl rfl rfl ?_
    refine zA_st (st' := [zI ((10 : Int32) * x3)]) rfl rfl rfl rfl ?_
    refine zA_push rfl rfl zkk19 ?_
    refine zA_aldn rfl rfl rfl ?_
    obtain ⟨p21, i22, e23, c24, H⟩ := zob_e H
    refine zA_gf3 rfl rfl e23 c24 ?_
    refine zA_ldn rfl rfl rfl ?_
    obtain ⟨p25, i26, j27, e28, c29, c30, e31, H⟩ := zai_e H
    refine zA_ial rfl rfl e28 c29 c30 e31 ?_
    refine zA_st (st' := [zI ((9 : Int32) * (zi h p25 i26 j27)), zI ((10 : Int32) * x3)]) rfl rfl rfl rfl ?_
    rcases zite_e H with ⟨c32, H⟩ | ⟨c32, H⟩
    · refine zA_brT (c := ((9 : Int32) * (zi h p25 i26 j27)) ≤ ((10 : Int32) * x3)) rfl rfl rfl c32 ?_
      refine zA_tr (L := [none, none, some (zI x2), none, none]) rfl rfl ?_
      refine zA_ldn rfl rfl rfl ?_
      cases H
      exact zA_ret rfl rfl
    · refine zA_brF (c := ((9 : Int32) * (zi h p25 i26 j27)) ≤ ((10 : Int32) * x3)) rfl rfl rfl c32 ?_
      obtain ⟨x33, e34, H⟩ := zlet_e H
      refine zA_inc rfl rfl rfl (e34.trans (congrArg (_ + ·) zkk8)) (zset1 (L' := [some (zrv x0), some (zI x1), some (zI x33), some (zI x3), none]) rfl rfl (zpcV rfl rfl)) ?_
      refine zA_push rfl rfl zkk7 ?_
      refine zA_ist2 rfl rfl rfl (zset1 (L' := [some (zrv x0), some (zI x1), some (zI x33), some (zI x3), some (zI (0 : Int32))]) rfl rfl (zpcV rfl rfl)) ?_
      exact zA_tr (L := [some (zrv x0), some (zI x1), some (zI x33), some (zI x3), some (zI (0 : Int32))]) rfl rfl (zmS213_17 ih zN0 _ _ _ _ _ _ _ _ H)
-- 213: ReleaseHouseModel.slow(I)I
def zm213 (x0 : zq) (x1 : Int32) (h : zH) : zRs Int32 :=
  zm213_4 zN0 x0 x1 (-1 : Int32) (0 : Int32) h
theorem zmS213 {x0 : zq} {x1 : Int32} {h : zH} {r : Int32 ⊕ Nat} {h' : zH} (H : zm213 x0 x1 h = some (r, h')) : zAt 213 0 [some (zrv x0), some (zI x1), none, none, none] [] h (zoI r) h' := by
  unfold zm213 at H
  refine zA_push rfl rfl zkk6 ?_
  refine zA_istn2 rfl rfl rfl (zset1 (L' := [some (zrv x0), some (zI x1), some (zI (-1 : Int32)), none, none]) rfl rfl (zpcV rfl rfl)) ?_
  refine zA_push rfl rfl zkk7 ?_
  refine zA_istn2 rfl rfl rfl (zset1 (L' := [some (zrv x0), some (zI x1), some (zI (-1 : Int32)), some (zI (0 : Int32)), none]) rfl rfl (zpcV rfl rfl)) ?_
  exact zA_tr (L := [some (zrv x0), some (zI x1), some (zI (-1 : Int32)), some (zI (0 : Int32)), none]) rfl rfl (zmS213_4 zN0 _ _ _ _ _ _ _ H)
theorem zmE213 (x0 : zq) (x1 : Int32) : zpad (zPr.2.1 213).1 (zil [zrv x0, zI x1]) = [some (zrv x0), some (zI x1), none, none, none] := by
  simp only [zil_A, zil_I, zil_F, zil_D, zil_N]
  rfl
-- 210: ReleaseHouseModel.pairs(I)I
def zm210 (x0 : zq) (x1 : Int32) (h : zH) : zRs Int32 :=
  zob 12 x0 fun p21 i22 =>
  zai (zr h p21 i22 47) ((2 : Int32) * x1) h fun p25 i26 j27 =>
  zai (zr h p21 i22 47) (((2 : Int32) * x1) + (1 : Int32)) h fun p32 i33 j34 =>
  if (zi h p32 i33 j34) ≤ (zi h p25 i26 j27) then
    zai (zr h p21 i22 47) (((2 : Int32) * x1) + (1 : Int32)) h fun p40 i41 j42 =>
    some (.inl (zi h p40 i41 j42), h)
  else
    zai (zr h p21 i22 47) ((2 : Int32) * x1) h fun p47 i48 j49 =>
    some (.inl (zi h p47 i48 j49), h)
theorem zmS210 {x0 : zq} {x1 : Int32} {h : zH} {r : Int32 ⊕ Nat} {h' : zH} (H : zm210 x0 x1 h = some (r, h')) : zAt 210 0 [some (zrv x0), some (zI x1)] [] h (zoI r) h' := by
  unfold zm210 at H
  refine zA_aldn rfl rfl rfl ?_
  obtain ⟨p21, i22, e23, c24, H⟩ := zob_e H
  refine zA_gf3 rfl rfl e23 c24 ?_
  refine zA_push rfl rfl zkk23 ?_
  refine zA_ldn rfl rfl rfl ?_
  refine zA_st (st' := [zI ((2 : Int32) * x1), zrv (zr h p21 i22 47)]) rfl rfl rfl rfl ?_
  obtain ⟨p25, i26, j27, e28, c29, c30, e31, H⟩ := zai_e H
  refine zA_ial rfl rfl e28 c29 c30 e31 ?_
  refine zA_aldn rfl rfl rfl ?_
  refine zA_gf3 rfl rfl e23 c24 ?_
  refine zA_push rfl rfl zkk23 ?_
  refine zA_ldn rfl rfl rfl ?_
  refine zA_st (st' := [zI ((2 : Int32) * x1), zrv (zr h p21 i22 47), zI (zi h p25 i26 j27)]) rfl rfl rfl rfl ?_
  refine zA_push rfl rfl zkk5 ?_
  refine zA_st (st' := [zI (((2 : Int32) * x1) + (1 : Int32)), zrv (zr h p21 i22 47), zI (zi h p25 i26 j27)]) rfl rfl rfl rfl ?_
  obtain ⟨p32, i33, j34, e35, c36, c37, e38, H⟩ := zai_e H
  refine zA_ial rfl rfl e35 c36 c37 e38 ?_
  rcases zite_e H with ⟨c39, H⟩ | ⟨c39, H⟩
  · refine zA_brT (c := (zi h p32 i33 j34) ≤ (zi h p25 i26 j27)) rfl rfl rfl c39 ?_
    refine zA_aldn rfl rfl rfl ?_
    refine zA_gf3 rfl rfl e23 c24 ?_
    refine zA_push rfl rfl zkk23 ?_
    refine zA_ldn rfl rfl rfl ?_
    refine zA_st (st' := [zI ((2 : Int32) * x1), zrv (zr h p21 i22 47)]) rfl rfl rfl rfl ?_
    refine zA_push rfl rfl zkk5 ?_
    refine zA_st (st' := [zI (((2 : Int32) * x1) + (1 : Int32)), zrv (zr h p21 i22 47)]) rfl rfl rfl rfl ?_
    obtain ⟨p40, i41, j42, e43, c44, c45, e46, H⟩ := zai_e H
    refine zA_ial rfl rfl e43 c44 c45 e46 ?_
    refine zA_tr (L := [none, none]) rfl rfl ?_
    cases H
    exact zA_ret rfl rfl
  · refine zA_brF (c := (zi h p32 i33 j34) ≤ (zi h p25 i26 j27)) rfl rfl rfl c39 ?_
    refine zA_aldn rfl rfl rfl ?_
    refine zA_gf3 rfl rfl e23 c24 ?_
    refine zA_push rfl rfl zkk23 ?_
    refine zA_ldn rfl rfl rfl ?_
    refine zA_st (st' := [zI ((2 : Int32) * x1), zrv (zr h p21 i22 47)]) rfl rfl rfl rfl ?_
    obtain ⟨p47, i48, j49, e50, c51, c52, e53, H⟩ := zai_e H
    refine zA_ial rfl rfl e50 c51 c52 e53 ?_
    refine zA_go rfl rfl ?_
    refine zA_tr (L := [none, none]) rfl rfl ?_
    cases H
    exact zA_ret rfl rfl
theorem zmE210 (x0 : zq) (x1 : Int32) : zpad (zPr.2.1 210).1 (zil [zrv x0, zI x1]) = [some (zrv x0), some (zI x1)] := by
  simp only [zil_A, zil_I, zil_F, zil_D, zil_N]
  rfl
def zm211_46 (k4 : zq → Int32 → UInt64 → Int32 → zH → zRs UInt64) (x0 : zq) (x1 : Int32) (x4 : Int32) (s0 : UInt64) (s1 : UInt64) (h : zH) : zRs UInt64 :=
  zif (FP.dmul s0 s1 &&& 0x7fffffffffffffff ≤ 0x7ff0000000000000) <|
  zlet (FP.dmul s0 s1) fun x22 =>
  zlet (x4 + (1 : Int32)) fun x24 =>
  k4 x0 x1 x22 x24 h
theorem zmS211_46 {k4 : zq → Int32 → UInt64 → Int32 → zH → zRs UInt64} (hk4 : ∀ (x0 : zq) (x1 : Int32) (x2 : UInt64) (x4 : Int32) (h : zH) (r : UInt64 ⊕ Nat) (h' : zH), k4 x0 x1 x2 x4 h = some (r, h') → zAt 211 4 [some (zrv x0), some (zI x1), some (zD x2), none, some (zI x4), none, none] [] h (zoD r) h') : ∀ (x0 : zq) (x1 : Int32) (x4 : Int32) (s0 : UInt64) (s1 : UInt64) (h : zH) (r : UInt64 ⊕ Nat) (h' : zH), zm211_46 k4 x0 x1 x4 s0 s1 h = some (r, h') → zAt 211 46 [some (zrv x0), some (zI x1), none, none, some (zI x4), none, none] [zD s1, zD s0] h (zoD r) h' := by
  intro x0 x1 x4 s0 s1 h r h' H
  unfold zm211_46 at H
  obtain ⟨c21, H⟩ := zif_e H
  refine zA_dmul rfl rfl c21 ?_
  obtain ⟨x22, e23, H⟩ := zlet_e H
  refine zA_dstn2 rfl rfl e23 (zset2 (L' := [some (zrv x0), some (zI x1), some (zD x22), none, some (zI x4), none, none]) rfl rfl (zpcV rfl rfl) rfl) ?_
  obtain ⟨x24, e25, H⟩ := zlet_e H
  refine zA_inc rfl rfl rfl (e25.trans (congrArg (_ + ·) zkk8)) (zset1 (L' := [some (zrv x0), some (zI x1), some (zD x22), none, some (zI x24), none, none]) rfl rfl (zpcN rfl)) ?_
  refine zA_go rfl rfl ?_
  exact zA_tr (L := [some (zrv x0), some (zI x1), some (zD x22), none, some (zI x24), none, none]) rfl rfl (hk4 _ _ _ _ _ _ _ H)
def zm211_4 (k50 : UInt64 → zH → zRs UInt64) : Nat → zq → Int32 → UInt64 → Int32 → zH → zRs UInt64
  | 0, _, _, _, _, _ => none
  | n + 1, x0, x1, x2, x4, h =>
    zob 12 x0 fun p21 i22 =>
    zb (zm210 x0 x1 h) fun x26 h25 =>
    if x26 ≤ x4 then
      k50 x2 h25
    else
      if 0 ≤ (Op.cmpValue (FP.dcmp x2 (4626322717216342016 : UInt64)) .g) then
        k50 x2 h25
      else
        zar 2 (zr h25 p21 i22 48) (((600 : Int32) * (((2 : Int32) * x1) + (1 : Int32))) + x4) h25 fun p29 i30 j31 =>
        zlet (zi h25 p29 i30 j31) fun x36 =>
        zar 2 (zr h25 p21 i22 48) (((1200 : Int32) * x1) + x4) h25 fun p38 i39 j40 =>
        zlet (zi h25 p38 i39 j40) fun x45 =>
        if x36 = x45 then
          zm211_46 (zm211_4 k50 n) x0 x1 x4 x2 (4607182418800017408 : UInt64) h25
        else
          if x36 = 0 then
            zm211_46 (zm211_4 k50 n) x0 x1 x4 x2 (4602678819172646912 : UInt64) h25
          else
            zm211_46 (zm211_4 k50 n) x0 x1 x4 x2 (4609434218613702656 : UInt64) h25
theorem zmS211_4 {k50 : UInt64 → zH → zRs UInt64} (hk50 : ∀ (x2 : UInt64) (h : zH) (r : UInt64 ⊕ Nat) (h' : zH), k50 x2 h = some (r, h') → zAt 211 50 [none, none, some (zD x2), none, none, none, none] [] h (zoD r) h') : ∀ (n : Nat) (x0 : zq) (x1 : Int32) (x2 : UInt64) (x4 : Int32) (h : zH) (r : UInt64 ⊕ Nat) (h' : zH), zm211_4 k50 n x0 x1 x2 x4 h = some (r, h') → zAt 211 4 [some (zrv x0), some (zI x1), some (zD x2), none, some (zI x4), none, none] [] h (zoD r) h' := by
  intro n
  induction n with
  | zero => intro x0 x1 x2 x4 h r h' H; cases H
  | succ n ih =>
    intro x0 x1 x2 x4 h r h' H
    unfold zm211_4 at H
    refine zA_ld rfl rfl rfl ?_
    refine zA_aldn rfl rfl rfl ?_
    refine zA_ldn rfl rfl rfl ?_
    obtain ⟨p21, i22, e23, c24, H⟩ := zob_e H
    rcases zb_e H with ⟨x26, h25, C, H⟩ | ⟨E, h25, C, H⟩
    · refine zA_callV (as := [zrv x0, zI x1]) (st' := [zI x4]) rfl rfl rfl (zrcv_Q e23 c24) rfl (zmE210 _ _) rfl (zmS210 C) ?_
      rcases zite_e H with ⟨c27, H⟩ | ⟨c27, H⟩
      · refine zA_brT (c := x26 ≤ x4) rfl rfl rfl c27 ?_
        exact zA_tr (L := [none, none, some (zD x2), none, none, none, none]) rfl rfl (hk50 _ _ _ _ H)
      · refine zA_brF (c := x26 ≤ x4) rfl rfl rfl c27 ?_
        refine zA_dldn rfl rfl rfl ?_
        refine zA_push rfl rfl zkk42 ?_
        refine zA_st (st' := [zI (Op.cmpValue (FP.dcmp x2 (4626322717216342016 : UInt64)) .g)]) rfl rfl rfl rfl ?_
        rcases zite_e H with ⟨c28, H⟩ | ⟨c28, H⟩
        · refine zA_brT (c := 0 ≤ (Op.cmpValue (FP.dcmp x2 (4626322717216342016 : UInt64)) .g)) rfl rfl rfl c28 ?_
          exact zA_tr (L := [none, none, some (zD x2), none, none, none, none]) rfl rfl (hk50 _ _ _ _ H)
        · refine zA_brF (c := 0 ≤ (Op.cmpValue (FP.dcmp x2 (4626322717216342016 : UInt64)) .g)) rfl rfl rfl c28 ?_
          refine zA_aldn rfl rfl rfl ?_
          refine zA_gf3 rfl rfl e23 c24 ?_
          refine zA_push rfl rfl zkk41 ?_
          refine zA_push rfl rfl zkk23 ?_
          refine zA_ldn rfl rfl rfl ?_
          refine zA_st (st' := [zI ((2 : Int32) * x1), zI (600 : Int32), zrv (zr h25 p21 i22 48)]) rfl rfl rfl rfl ?_
          refine zA_push rfl rfl zkk5 ?_
          refine zA_st (st' := [zI (((2 : Int32) * x1) + (1 : Int32)), zI (600 : Int32), zrv (zr h25 p21 i22 48)]) rfl rfl rfl rfl ?_
          refine zA_st (st' := [zI ((600 : Int32) * (((2 : Int32) * x1) + (1 : Int32))), zrv (zr h25 p21 i22 48)]) rfl rfl rfl rfl ?_
          refine zA_ld rfl rfl rfl ?_
          refine zA_st (st' := [zI (((600 : Int32) * (((2 : Int32) * x1) + (1 : Int32))) + x4), zrv (zr h25 p21 i22 48)]) rfl rfl rfl rfl ?_
          obtain ⟨p29, i30, j31, e32, c33, c34, e35, H⟩ := zar_e H
          refine zA_bal rfl rfl e32 c33 c34 e35 ?_
          obtain ⟨x36, e37, H⟩ := zlet_e H
          refine zA_ist2 rfl rfl e37 (zset1 (L' := [some (zrv x0), some (zI x1), some (zD x2), none, some (zI x4), some (zI x36), none]) rfl rfl (zpcV rfl rfl)) ?_
          refine zA_aldn rfl rfl rfl ?_
          refine zA_gf3 rfl rfl e23 c24 ?_
          refine zA_push rfl rfl zkk43 ?_
          refine zA_ldn rfl rfl rfl ?_
          refine zA_st (st' := [zI ((1200 : Int32) * x1), zrv (zr h25 p21 i22 48)]) rfl rfl rfl rfl ?_
          refine zA_ld rfl rfl rfl ?_
          refine zA_st (st' := [zI (((1200 : Int32) * x1) + x4), zrv (zr h25 p21 i22 48)]) rfl rfl rfl rfl ?_
          obtain ⟨p38, i39, j40, e41, c42, c43, e44, H⟩ := zar_e H
          refine zA_bal rfl rfl e41 c42 c43 e44 ?_
          obtain ⟨x45, e46, H⟩ := zlet_e H
          refine zA_ist2 rfl rfl e46 (zset1 (L' := [some (zrv x0), some (zI x1), some (zD x2), none, some (zI x4), some (zI x36), some (zI x45)]) rfl rfl (zpcV rfl rfl)) ?_
          refine zA_dldn rfl rfl rfl ?_
          refine zA_ld rfl rfl rfl ?_
          refine zA_ld rfl rfl rfl ?_
          rcases zite_e H with ⟨c47, H⟩ | ⟨c47, H⟩
          · refine zA_brF' (c := x36 = x45) rfl rfl rfl c47 ?_
            refine zA_push rfl rfl zkk2 ?_
            refine zA_go rfl rfl ?_
            exact zA_tr (L := [some (zrv x0), some (zI x1), none, none, some (zI x4), none, none]) rfl rfl (zmS211_46 ih _ _ _ _ _ _ _ _ H)
          · refine zA_brT' (c := x36 = x45) rfl rfl rfl c47 ?_
            refine zA_tr (L := [some (zrv x0), some (zI x1), none, none, some (zI x4), some (zI x36), none]) rfl rfl ?_
            refine zA_ld rfl rfl rfl ?_
            rcases zite_e H with ⟨c48, H⟩ | ⟨c48, H⟩
            · refine zA_brT (c := x36 = 0) rfl rfl rfl c48 ?_
              refine zA_tr (L := [some (zrv x0), some (zI x1), none, none, some (zI x4), none, none]) rfl rfl ?_
              refine zA_push rfl rfl zkk44 ?_
              exact zA_tr (L := [some (zrv x0), some (zI x1), none, none, some (zI x4), none, none]) rfl rfl (zmS211_46 ih _ _ _ _ _ _ _ _ H)
            · refine zA_brF (c := x36 = 0) rfl rfl rfl c48 ?_
              refine zA_push rfl rfl zkk45 ?_
              refine zA_go rfl rfl ?_
              exact zA_tr (L := [some (zrv x0), some (zI x1), none, none, some (zI x4), none, none]) rfl rfl (zmS211_46 ih _ _ _ _ _ _ _ _ H)
    · cases H
      exact zA_callX (as := [zrv x0, zI x1]) (st' := [zI x4]) rfl rfl (zrcv_Q e23 c24) rfl (zmE210 _ _) rfl rfl rfl (zmS210 C)
def zm211_50 (x2 : UInt64) (h : zH) : zRs UInt64 :=
  some (.inl x2, h)
theorem zmS211_50 : ∀ (x2 : UInt64) (h : zH) (r : UInt64 ⊕ Nat) (h' : zH), zm211_50 x2 h = some (r, h') → zAt 211 50 [none, none, some (zD x2), none, none, none, none] [] h (zoD r) h' := by
  intro x2 h r h' H
  unfold zm211_50 at H
  refine zA_dldn rfl rfl rfl ?_
  cases H
  exact zA_ret rfl rfl
-- 211: ReleaseHouseModel.capitalOf(I)D
def zm211 (x0 : zq) (x1 : Int32) (h : zH) : zRs UInt64 :=
  zm211_4 (zm211_50) zN0 x0 x1 (4607182418800017408 : UInt64) (0 : Int32) h
theorem zmS211 {x0 : zq} {x1 : Int32} {h : zH} {r : UInt64 ⊕ Nat} {h' : zH} (H : zm211 x0 x1 h = some (r, h')) : zAt 211 0 [some (zrv x0), some (zI x1), none, none, none, none, none] [] h (zoD r) h' := by
  unfold zm211 at H
  refine zA_push rfl rfl zkk2 ?_
  refine zA_dstn2 rfl rfl rfl (zset2 (L' := [some (zrv x0), some (zI x1), some (zD (4607182418800017408 : UInt64)), none, none, none, none]) rfl rfl (zpcV rfl rfl) rfl) ?_
  refine zA_push rfl rfl zkk7 ?_
  refine zA_ist2 rfl rfl rfl (zset1 (L' := [some (zrv x0), some (zI x1), some (zD (4607182418800017408 : UInt64)), none, some (zI (0 : Int32)), none, none]) rfl rfl (zpcN rfl)) ?_
  exact zA_tr (L := [some (zrv x0), some (zI x1), some (zD (4607182418800017408 : UInt64)), none, some (zI (0 : Int32)), none, none]) rfl rfl (zmS211_4 (zmS211_50) zN0 _ _ _ _ _ _ _ H)
theorem zmE211 (x0 : zq) (x1 : Int32) : zpad (zPr.2.1 211).1 (zil [zrv x0, zI x1]) = [some (zrv x0), some (zI x1), none, none, none, none, none] := by
  simp only [zil_A, zil_I, zil_F, zil_D, zil_N]
  rfl
def zm214_36 (x0 : zq) (x1 : Int32) (s0 : Int32) (h : zH) : zRs Int32 :=
  zob 12 x0 fun p21 i22 =>
  zb (zm211 x0 x1 h) fun x26 h25 =>
  if 0 ≤ (Op.cmpValue (FP.dcmp x26 (4626322717216342016 : UInt64)) .l) then
    some (.inl (2 : Int32), h25)
  else
    if s0 = 0 then
      zb (zm210 x0 x1 h25) fun x30 h29 =>
      if x30 < (20 : Int32) then
        some (.inl (0 : Int32), h29)
      else
        some (.inl (1 : Int32), h29)
    else
      some (.inl (2 : Int32), h25)
theorem zmS214_36 : ∀ (x0 : zq) (x1 : Int32) (s0 : Int32) (h : zH) (r : Int32 ⊕ Nat) (h' : zH), zm214_36 x0 x1 s0 h = some (r, h') → zAt 214 36 [some (zrv x0), some (zI x1), none] [zI s0] h (zoI r) h' := by
  intro x0 x1 s0 h r h' H
  unfold zm214_36 at H
  refine zA_istn2 rfl rfl rfl (zset1 (L' := [some (zrv x0), some (zI x1), some (zI s0)]) rfl rfl (zpcV rfl rfl)) ?_
  refine zA_aldn rfl rfl rfl ?_
  refine zA_ldn rfl rfl rfl ?_
  obtain ⟨p21, i22, e23, c24, H⟩ := zob_e H
  rcases zb_e H with ⟨x26, h25, C, H⟩ | ⟨E, h25, C, H⟩
  · refine zA_callV (as := [zrv x0, zI x1]) (st' := []) rfl rfl rfl (zrcv_Q e23 c24) rfl (zmE211 _ _) rfl (zmS211 C) ?_
    refine zA_push rfl rfl zkk42 ?_
    refine zA_st (st' := [zI (Op.cmpValue (FP.dcmp x26 (4626322717216342016 : UInt64)) .l)]) rfl rfl rfl rfl ?_
    rcases zite_e H with ⟨c27, H⟩ | ⟨c27, H⟩
    · refine zA_brT (c := 0 ≤ (Op.cmpValue (FP.dcmp x26 (4626322717216342016 : UInt64)) .l)) rfl rfl rfl c27 ?_
      refine zA_tr (L := [none, none, none]) rfl rfl ?_
      refine zA_push rfl rfl zkk23 ?_
      refine zA_go rfl rfl ?_
      cases H
      exact zA_ret rfl rfl
    · refine zA_brF (c := 0 ≤ (Op.cmpValue (FP.dcmp x26 (4626322717216342016 : UInt64)) .l)) rfl rfl rfl c27 ?_
      refine zA_ldn rfl rfl rfl ?_
      rcases zite_e H with ⟨c28, H⟩ | ⟨c28, H⟩
      · refine zA_brT (c := s0 = 0) rfl rfl rfl c28 ?_
        refine zA_tr (L := [some (zrv x0), some (zI x1), none]) rfl rfl ?_
        refine zA_aldn rfl rfl rfl ?_
        refine zA_ldn rfl rfl rfl ?_
        rcases zb_e H with ⟨x30, h29, C, H⟩ | ⟨E, h29, C, H⟩
        · refine zA_callV (as := [zrv x0, zI x1]) (st' := []) rfl rfl rfl (zrcv_Q e23 c24) rfl (zmE210 _ _) rfl (zmS210 C) ?_
          refine zA_push rfl rfl zkk16 ?_
          rcases zite_e H with ⟨c31, H⟩ | ⟨c31, H⟩
          · refine zA_brT (c := x30 < (20 : Int32)) rfl rfl rfl c31 ?_
            refine zA_tr (L := [none, none, none]) rfl rfl ?_
            refine zA_push rfl rfl zkk7 ?_
            cases H
            exact zA_ret rfl rfl
          · refine zA_brF (c := x30 < (20 : Int32)) rfl rfl rfl c31 ?_
            refine zA_push rfl rfl zkk5 ?_
            refine zA_go rfl rfl ?_
            refine zA_tr (L := [none, none, none]) rfl rfl ?_
            cases H
            exact zA_ret rfl rfl
        · cases H
          exact zA_callX (as := [zrv x0, zI x1]) (st' := []) rfl rfl (zrcv_Q e23 c24) rfl (zmE210 _ _) rfl rfl rfl (zmS210 C)
      · refine zA_brF (c := s0 = 0) rfl rfl rfl c28 ?_
        refine zA_tr (L := [none, none, none]) rfl rfl ?_
        refine zA_push rfl rfl zkk23 ?_
        refine zA_go rfl rfl ?_
        cases H
        exact zA_ret rfl rfl
  · cases H
    exact zA_callX (as := [zrv x0, zI x1]) (st' := []) rfl rfl (zrcv_Q e23 c24) rfl (zmE211 _ _) rfl rfl rfl (zmS211 C)
-- 214: ReleaseHouseModel.verdictOf(I)I
def zm214 (x0 : zq) (x1 : Int32) (h : zH) : zRs Int32 :=
  zob 12 x0 fun p21 i22 =>
  zai (zr h p21 i22 47) ((2 : Int32) * x1) h fun p25 i26 j27 =>
  if (zi h p25 i26 j27) < (10 : Int32) then
    zm214_36 x0 x1 (0 : Int32) h
  else
    zai (zr h p21 i22 47) (((2 : Int32) * x1) + (1 : Int32)) h fun p33 i34 j35 =>
    if (zi h p33 i34 j35) < (10 : Int32) then
      zm214_36 x0 x1 (0 : Int32) h
    else
      zb (zm213 x0 (((2 : Int32) * x1) + (1 : Int32)) h) fun x42 h41 =>
      zb (zm213 x0 ((2 : Int32) * x1) h41) fun x44 h43 =>
      if x42 ≤ (x44 + (1 : Int32)) then
        zm214_36 x0 x1 (0 : Int32) h43
      else
        zm214_36 x0 x1 (1 : Int32) h43
theorem zmS214 {x0 : zq} {x1 : Int32} {h : zH} {r : Int32 ⊕ Nat} {h' : zH} (H : zm214 x0 x1 h = some (r, h')) : zAt 214 0 [some (zrv x0), some (zI x1), none] [] h (zoI r) h' := by
  unfold zm214 at H
  refine zA_aldn rfl rfl rfl ?_
  obtain ⟨p21, i22, e23, c24, H⟩ := zob_e H
  refine zA_gf3 rfl rfl e23 c24 ?_
  refine zA_push rfl rfl zkk23 ?_
  refine zA_ldn rfl rfl rfl ?_
  refine zA_st (st' := [zI ((2 : Int32) * x1), zrv (zr h p21 i22 47)]) rfl rfl rfl rfl ?_
  obtain ⟨p25, i26, j27, e28, c29, c30, e31, H⟩ := zai_e H
  refine zA_ial rfl rfl e28 c29 c30 e31 ?_
  refine zA_push rfl rfl zkk27 ?_
  rcases zite_e H with ⟨c32, H⟩ | ⟨c32, H⟩
  · refine zA_brT (c := (zi h p25 i26 j27) < (10 : Int32)) rfl rfl rfl c32 ?_
    refine zA_push rfl rfl zkk7 ?_
    exact zA_tr (L := [some (zrv x0), some (zI x1), none]) rfl rfl (zmS214_36 _ _ _ _ _ _ H)
  · refine zA_brF (c := (zi h p25 i26 j27) < (10 : Int32)) rfl rfl rfl c32 ?_
    refine zA_aldn rfl rfl rfl ?_
    refine zA_gf3 rfl rfl e23 c24 ?_
    refine zA_push rfl rfl zkk23 ?_
    refine zA_ldn rfl rfl rfl ?_
    refine zA_st (st' := [zI ((2 : Int32) * x1), zrv (zr h p21 i22 47)]) rfl rfl rfl rfl ?_
    refine zA_push rfl rfl zkk5 ?_
    refine zA_st (st' := [zI (((2 : Int32) * x1) + (1 : Int32)), zrv (zr h p21 i22 47)]) rfl rfl rfl rfl ?_
    obtain ⟨p33, i34, j35, e36, c37, c38, e39, H⟩ := zai_e H
    refine zA_ial rfl rfl e36 c37 c38 e39 ?_
    refine zA_push rfl rfl zkk27 ?_
    rcases zite_e H with ⟨c40, H⟩ | ⟨c40, H⟩
    · refine zA_brT (c := (zi h p33 i34 j35) < (10 : Int32)) rfl rfl rfl c40 ?_
      refine zA_push rfl rfl zkk7 ?_
      exact zA_tr (L := [some (zrv x0), some (zI x1), none]) rfl rfl (zmS214_36 _ _ _ _ _ _ H)
    · refine zA_brF (c := (zi h p33 i34 j35) < (10 : Int32)) rfl rfl rfl c40 ?_
      refine zA_aldn rfl rfl rfl ?_
      refine zA_push rfl rfl zkk23 ?_
      refine zA_ldn rfl rfl rfl ?_
      refine zA_st (st' := [zI ((2 : Int32) * x1), zrv x0]) rfl rfl rfl rfl ?_
      refine zA_push rfl rfl zkk5 ?_
      refine zA_st (st' := [zI (((2 : Int32) * x1) + (1 : Int32)), zrv x0]) rfl rfl rfl rfl ?_
      rcases zb_e H with ⟨x42, h41, C, H⟩ | ⟨E, h41, C, H⟩
      · refine zA_callV (as := [zrv x0, zI (((2 : Int32) * x1) + (1 : Int32))]) (st' := []) rfl rfl rfl (zrcv_Q e23 c24) rfl (zmE213 _ _) rfl (zmS213 C) ?_
        refine zA_aldn rfl rfl rfl ?_
        refine zA_push rfl rfl zkk23 ?_
        refine zA_ldn rfl rfl rfl ?_
        refine zA_st (st' := [zI ((2 : Int32) * x1), zrv x0, zI x42]) rfl rfl rfl rfl ?_
        rcases zb_e H with ⟨x44, h43, C, H⟩ | ⟨E, h43, C, H⟩
        · refine zA_callV (as := [zrv x0, zI ((2 : Int32) * x1)]) (st' := [zI x42]) rfl rfl rfl (zrcv_Q e23 c24) rfl (zmE213 _ _) rfl (zmS213 C) ?_
          refine zA_push rfl rfl zkk5 ?_
          refine zA_st (st' := [zI (x44 + (1 : Int32)), zI x42]) rfl rfl rfl rfl ?_
          rcases zite_e H with ⟨c45, H⟩ | ⟨c45, H⟩
          · refine zA_brT (c := x42 ≤ (x44 + (1 : Int32))) rfl rfl rfl c45 ?_
            refine zA_push rfl rfl zkk7 ?_
            exact zA_tr (L := [some (zrv x0), some (zI x1), none]) rfl rfl (zmS214_36 _ _ _ _ _ _ H)
          · refine zA_brF (c := x42 ≤ (x44 + (1 : Int32))) rfl rfl rfl c45 ?_
            refine zA_push rfl rfl zkk5 ?_
            refine zA_go rfl rfl ?_
            exact zA_tr (L := [some (zrv x0), some (zI x1), none]) rfl rfl (zmS214_36 _ _ _ _ _ _ H)
        · cases H
          exact zA_callX (as := [zrv x0, zI ((2 : Int32) * x1)]) (st' := [zI x42]) rfl rfl (zrcv_Q e23 c24) rfl (zmE213 _ _) rfl rfl rfl (zmS213 C)
      · cases H
        exact zA_callX (as := [zrv x0, zI (((2 : Int32) * x1) + (1 : Int32))]) (st' := []) rfl rfl (zrcv_Q e23 c24) rfl (zmE213 _ _) rfl rfl rfl (zmS213 C)
theorem zmE214 (x0 : zq) (x1 : Int32) : zpad (zPr.2.1 214).1 (zil [zrv x0, zI x1]) = [some (zrv x0), some (zI x1), none] := by
  simp only [zil_A, zil_I, zil_F, zil_D, zil_N]
  rfl
-- 144: ReleaseHouseModel.ringOf(I)I
def zm144 (x0 : Int32) (h : zH) : zRs Int32 :=
  zlet (x0 - x0 / (10 : Int32) * (10 : Int32)) fun x22 =>
  if x22 = 0 then
    some (.inl (0 : Int32), h)
  else
    if (4 : Int32) ≤ x22 then
      some (.inl (2 : Int32), h)
    else
      some (.inl (1 : Int32), h)
theorem zmS144 {x0 : Int32} {h : zH} {r : Int32 ⊕ Nat} {h' : zH} (H : zm144 x0 h = some (r, h')) : zAt 144 0 [some (zI x0), none] [] h (zoI r) h' := by
  unfold zm144 at H
  refine zA_ldn rfl rfl rfl ?_
  refine zA_push rfl rfl zkk27 ?_
  refine zA_rem rfl rfl (by decide) ?_
  obtain ⟨x22, e23, H⟩ := zlet_e H
  refine zA_istn2 rfl rfl e23 (zset1 (L' := [some (zI x0), some (zI x22)]) rfl rfl (zpcV rfl rfl)) ?_
  refine zA_ldn rfl rfl rfl ?_
  rcases zite_e H with ⟨c24, H⟩ | ⟨c24, H⟩
  · refine zA_brF' (c := x22 = 0) rfl rfl rfl c24 ?_
    refine zA_push rfl rfl zkk7 ?_
    refine zA_go rfl rfl ?_
    refine zA_tr (L := [none, none]) rfl rfl ?_
    cases H
    exact zA_ret rfl rfl
  · refine zA_brT' (c := x22 = 0) rfl rfl rfl c24 ?_
    refine zA_tr (L := [none, some (zI x22)]) rfl rfl ?_
    refine zA_ldn rfl rfl rfl ?_
    refine zA_push rfl rfl zkk9 ?_
    rcases zite_e H with ⟨c25, H⟩ | ⟨c25, H⟩
    · refine zA_brT (c := (4 : Int32) ≤ x22) rfl rfl rfl c25 ?_
      refine zA_tr (L := [none, none]) rfl rfl ?_
      refine zA_push rfl rfl zkk23 ?_
      cases H
      exact zA_ret rfl rfl
    · refine zA_brF (c := (4 : Int32) ≤ x22) rfl rfl rfl c25 ?_
      refine zA_push rfl rfl zkk5 ?_
      refine zA_go rfl rfl ?_
      refine zA_tr (L := [none, none]) rfl rfl ?_
      cases H
      exact zA_ret rfl rfl
theorem zmE144 (x0 : Int32) : zpad (zPr.2.1 144).1 (zil [zI x0]) = [some (zI x0), none] := by
  simp only [zil_A, zil_I, zil_F, zil_D, zil_N]
  rfl
def zm170_38 (k4 : zq → Int32 → Int32 → Int32 → Int32 → zH → zRs Int32) (x0 : zq) (x1 : Int32) (x2 : Int32) (x4 : Int32) (s0 : Int32) (h : zH) : zRs Int32 :=
  zlet (x4 + (1 : Int32)) fun x21 =>
  k4 x0 x1 x2 s0 x21 h
theorem zmS170_38 {k4 : zq → Int32 → Int32 → Int32 → Int32 → zH → zRs Int32} (hk4 : ∀ (x0 : zq) (x1 : Int32) (x2 : Int32) (x3 : Int32) (x4 : Int32) (h : zH) (r : Int32 ⊕ Nat) (h' : zH), k4 x0 x1 x2 x3 x4 h = some (r, h') → zAt 170 4 [some (zrv x0), some (zI x1), some (zI x2), some (zI x3), some (zI x4), none] [] h (zoI r) h') : ∀ (x0 : zq) (x1 : Int32) (x2 : Int32) (x4 : Int32) (s0 : Int32) (h : zH) (r : Int32 ⊕ Nat) (h' : zH), zm170_38 k4 x0 x1 x2 x4 s0 h = some (r, h') → zAt 170 38 [some (zrv x0), some (zI x1), some (zI x2), none, some (zI x4), none] [zI s0] h (zoI r) h' := by
  intro x0 x1 x2 x4 s0 h r h' H
  unfold zm170_38 at H
  refine zA_istn2 rfl rfl rfl (zset1 (L' := [some (zrv x0), some (zI x1), some (zI x2), some (zI s0), some (zI x4), none]) rfl rfl (zpcV rfl rfl)) ?_
  obtain ⟨x21, e22, H⟩ := zlet_e H
  refine zA_inc rfl rfl rfl (e22.trans (congrArg (_ + ·) zkk8)) (zset1 (L' := [some (zrv x0), some (zI x1), some (zI x2), some (zI s0), some (zI x21), none]) rfl rfl (zpcV rfl rfl)) ?_
  refine zA_go rfl rfl ?_
  exact zA_tr (L := [some (zrv x0), some (zI x1), some (zI x2), some (zI s0), some (zI x21), none]) rfl rfl (hk4 _ _ _ _ _ _ _ _ H)
def zm170_4 : Nat → zq → Int32 → Int32 → Int32 → Int32 → zH → zRs Int32
  | 0, _, _, _, _, _, _ => none
  | n + 1, x0, x1, x2, x3, x4, h =>
    if (200 : Int32) ≤ x4 then
      zif (x3 = 0 ∨ x3 = 1) <|
      some (.inl x3, h)
    else
      zob 12 x0 fun p23 i24 =>
      zai (zr h p23 i24 18) (((200 : Int32) * x1) + x4) h fun p27 i28 j29 =>
      zlet (zi h p27 i28 j29) fun x34 =>
      if x3 = 0 then
        zm170_38 (zm170_4 n) x0 x1 x2 x4 (0 : Int32) h
      else
        zb (zm144 x4 h) fun x38 h37 =>
        if x38 = x2 then
          if x34 = (-1 : Int32) then
            zm170_38 (zm170_4 n) x0 x1 x2 x4 (1 : Int32) h37
          else
            zai (zr h37 p23 i24 12) (((3 : Int32) * x1) + x2) h37 fun p41 i42 j43 =>
            if x34 = (zi h37 p41 i42 j43) then
              zm170_38 (zm170_4 n) x0 x1 x2 x4 (1 : Int32) h37
            else
              zm170_38 (zm170_4 n) x0 x1 x2 x4 (0 : Int32) h37
        else
          zm170_38 (zm170_4 n) x0 x1 x2 x4 (1 : Int32) h37
theorem zmS170_4 : ∀ (n : Nat) (x0 : zq) (x1 : Int32) (x2 : Int32) (x3 : Int32) (x4 : Int32) (h : zH) (r : Int32 ⊕ Nat) (h' : zH), zm170_4 n x0 x1 x2 x3 x4 h = some (r, h') → zAt 170 4 [some (zrv x0), some (zI x1), some (zI x2), some (zI x3), some (zI x4), none] [] h (zoI r) h' := by
  intro n
  induction n with
  | zero => intro x0 x1 x2 x3 x4 h r h' H; cases H
  | succ n ih =>
    intro x0 x1 x2 x3 x4 h r h' H
    unfold zm170_4 at H
    refine zA_ld rfl rfl rfl ?_
    refine zA_push rfl rfl zkk4 ?_
    rcases zite_e H with ⟨c21, H⟩ | ⟨c21, H⟩
    · refine zA_brT (c := (200 : Int32) ≤ x4) rfl rfl rfl c21 ?_
      refine zA_tr (L := [none, none, none, some (zI x3), none, none]) rfl rfl ?_
      refine zA_ldn rfl rfl rfl ?_
      obtain ⟨c22, H⟩ := zif_e H
      cases H
      exact zA_ret rfl (zret_Z c22)
    · refine zA_brF (c := (200 : Int32) ≤ x4) rfl rfl rfl c21 ?_
      refine zA_aldn rfl rfl rfl ?_
      obtain ⟨p23, i24, e25, c26, H⟩ := zob_e H
      refine zA_gf3 rfl rfl e25 c26 ?_
      refine zA_push rfl rfl zkk4 ?_
      refine zA_ldn rfl rfl rfl ?_
      refine zA_st (st' := [zI ((200 : Int32) * x1), zrv (zr h p23 i24 18)]) rfl rfl rfl rfl ?_
      refine zA_ld rfl rfl rfl ?_
      refine zA_st (st' := [zI (((200 : Int32) * x1) + x4), zrv (zr h p23 i24 18)]) rfl rfl rfl rfl ?_
      obtain ⟨p27, i28, j29, e30, c31, c32, e33, H⟩ := zai_e H
      refine zA_ial rfl rfl e30 c31 c32 e33 ?_
      obtain ⟨x34, e35, H⟩ := zlet_e H
      refine zA_ist2 rfl rfl e35 (zset1 (L' := [some (zrv x0), some (zI x1), some (zI x2), some (zI x3), some (zI x4), some (zI x34)]) rfl rfl (zpcV rfl rfl)) ?_
      refine zA_ldn rfl rfl rfl ?_
      rcases zite_e H with ⟨c36, H⟩ | ⟨c36, H⟩
      · refine zA_brT (c := x3 = 0) rfl rfl rfl c36 ?_
        refine zA_tr (L := [some (zrv x0), some (zI x1), some (zI x2), none, some (zI x4), none]) rfl rfl ?_
        refine zA_push rfl rfl zkk7 ?_
        exact zA_tr (L := [some (zrv x0), some (zI x1), some (zI x2), none, some (zI x4), none]) rfl rfl (zmS170_38 ih _ _ _ _ _ _ _ _ H)
      · refine zA_brF (c := x3 = 0) rfl rfl rfl c36 ?_
        refine zA_ld rfl rfl rfl ?_
        rcases zb_e H with ⟨x38, h37, C, H⟩ | ⟨E, h37, C, H⟩
        · refine zA_callV (as := [zI x4]) (st' := []) rfl rfl rfl rfl rfl (zmE144 _) rfl (zmS144 C) ?_
          refine zA_ldn rfl rfl rfl ?_
          rcases zite_e H with ⟨c39, H⟩ | ⟨c39, H⟩
          · refine zA_brF' (c := x38 = x2) rfl rfl rfl c39 ?_
            refine zA_ld rfl rfl rfl ?_
            refine zA_push rfl rfl zkk6 ?_
            rcases zite_e H with ⟨c40, H⟩ | ⟨c40, H⟩
            · refine zA_brT (c := x34 = (-1 : Int32)) rfl rfl rfl c40 ?_
              refine zA_tr (L := [some (zrv x0), some (zI x1), some (zI x2), none, some (zI x4), none]) rfl rfl ?_
              refine zA_push rfl rfl zkk5 ?_
              refine zA_go rfl rfl ?_
              exact zA_tr (L := [some (zrv x0), some (zI x1), some (zI x2), none, some (zI x4), none]) rfl rfl (zmS170_38 ih _ _ _ _ _ _ _ _ H)
            · refine zA_brF (c := x34 = (-1 : Int32)) rfl rfl rfl c40 ?_
              refine zA_ld rfl rfl rfl ?_
              refine zA_aldn rfl rfl rfl ?_
              refine zA_gf3 rfl rfl e25 c26 ?_
              refine zA_push rfl rfl zkk3 ?_
              refine zA_ldn rfl rfl rfl ?_
              refine zA_st (st' := [zI ((3 : Int32) * x1), zrv (zr h37 p23 i24 12), zI x34]) rfl rfl rfl rfl ?_
              refine zA_ldn rfl rfl rfl ?_
              refine zA_st (st' := [zI (((3 : Int32) * x1) + x2), zrv (zr h37 p23 i24 12), zI x34]) rfl rfl rfl rfl ?_
              obtain ⟨p41, i42, j43, e44, c45, c46, e47, H⟩ := zai_e H
              refine zA_ial rfl rfl e44 c45 c46 e47 ?_
              rcases zite_e H with ⟨c48, H⟩ | ⟨c48, H⟩
              · refine zA_brF' (c := x34 = (zi h37 p41 i42 j43)) rfl rfl rfl c48 ?_
                refine zA_tr (L := [some (zrv x0), some (zI x1), some (zI x2), none, some (zI x4), none]) rfl rfl ?_
                refine zA_push rfl rfl zkk5 ?_
                refine zA_go rfl rfl ?_
                exact zA_tr (L := [some (zrv x0), some (zI x1), some (zI x2), none, some (zI x4), none]) rfl rfl (zmS170_38 ih _ _ _ _ _ _ _ _ H)
              · refine zA_brT' (c := x34 = (zi h37 p41 i42 j43)) rfl rfl rfl c48 ?_
                refine zA_tr (L := [some (zrv x0), some (zI x1), some (zI x2), none, some (zI x4), none]) rfl rfl ?_
                refine zA_push rfl rfl zkk7 ?_
                exact zA_tr (L := [some (zrv x0), some (zI x1), some (zI x2), none, some (zI x4), none]) rfl rfl (zmS170_38 ih _ _ _ _ _ _ _ _ H)
          · refine zA_brT' (c := x38 = x2) rfl rfl rfl c39 ?_
            refine zA_tr (L := [some (zrv x0), some (zI x1), some (zI x2), none, some (zI x4), none]) rfl rfl ?_
            refine zA_push rfl rfl zkk5 ?_
            refine zA_go rfl rfl ?_
            exact zA_tr (L := [some (zrv x0), some (zI x1), some (zI x2), none, some (zI x4), none]) rfl rfl (zmS170_38 ih _ _ _ _ _ _ _ _ H)
        · cases H
          exact zA_callX (as := [zI x4]) (st' := []) rfl rfl rfl rfl (zmE144 _) rfl rfl rfl (zmS144 C)
-- 170: ReleaseHouseModel.isDrained(II)Z
def zm170 (x0 : zq) (x1 : Int32) (x2 : Int32) (h : zH) : zRs Int32 :=
  zm170_4 zN0 x0 x1 x2 (1 : Int32) (0 : Int32) h
theorem zmS170 {x0 : zq} {x1 : Int32} {x2 : Int32} {h : zH} {r : Int32 ⊕ Nat} {h' : zH} (H : zm170 x0 x1 x2 h = some (r, h')) : zAt 170 0 [some (zrv x0), some (zI x1), some (zI x2), none, none, none] [] h (zoI r) h' := by
  unfold zm170 at H
  refine zA_push rfl rfl zkk5 ?_
  refine zA_istn2 rfl rfl rfl (zset1 (L' := [some (zrv x0), some (zI x1), some (zI x2), some (zI (1 : Int32)), none, none]) rfl rfl (zpcV rfl rfl)) ?_
  refine zA_push rfl rfl zkk7 ?_
  refine zA_ist2 rfl rfl rfl (zset1 (L' := [some (zrv x0), some (zI x1), some (zI x2), some (zI (1 : Int32)), some (zI (0 : Int32)), none]) rfl rfl (zpcV rfl rfl)) ?_
  exact zA_tr (L := [some (zrv x0), some (zI x1), some (zI x2), some (zI (1 : Int32)), some (zI (0 : Int32)), none]) rfl rfl (zmS170_4 zN0 _ _ _ _ _ _ _ _ H)
theorem zmE170 (x0 : zq) (x1 : Int32) (x2 : Int32) : zpad (zPr.2.1 170).1 (zil [zrv x0, zI x1, zI x2]) = [some (zrv x0), some (zI x1), some (zI x2), none, none, none] := by
  simp only [zil_A, zil_I, zil_F, zil_D, zil_N]
  rfl
-- 171: ReleaseHouseModel.reason(I)I
def zm171 (x0 : zq) (x1 : Int32) (h : zH) : zRs Int32 :=
  zob 12 x0 fun p21 i22 =>
  zai (zr h p21 i22 31) x1 h fun p25 i26 j27 =>
  zlet (zi h p25 i26 j27) fun x32 =>
  zai (zr h p21 i22 32) x1 h fun p34 i35 j36 =>
  zai (zr h p21 i22 34) x1 h fun p41 i42 j43 =>
  zlet (((10 : Int32) * (zi h p34 i35 j36)) + (zi h p41 i42 j43)) fun x48 =>
  zai (zr h p21 i22 28) x48 h fun p50 i51 j52 =>
  zlet (zi h p50 i51 j52) fun x57 =>
  zai (zr h p21 i22 27) x48 h fun p59 i60 j61 =>
  if (zi h p59 i60 j61).toInt < 0 ∨ 5 < (zi h p59 i60 j61).toInt then
    zai (zr h p21 i22 3) x32 h fun p67 i68 j69 =>
    zb (zm170 x0 (zi h p67 i68 j69) x57 h) fun x75 h74 =>
    if x75 = 0 then
      some (.inl (12 : Int32), h74)
    else
      some (.inl (0 : Int32), h74)
  else if (zi h p59 i60 j61) = (0 : Int32) then
    zai (zr h p21 i22 29) x48 h fun p135 i136 j137 =>
    zb (zm169 x0 x1 x57 (1 : Int32) (zi h p135 i136 j137) h) fun x143 h142 =>
    some (.inl x143, h142)
  else if (zi h p59 i60 j61) = (1 : Int32) then
    zai (zr h p21 i22 35) x1 h fun p126 i127 j128 =>
    if x57 ≤ ((zi h p21 i22 1) - (zi h p126 i127 j128)) then
      some (.inl (0 : Int32), h)
    else
      some (.inl (8 : Int32), h)
  else if (zi h p59 i60 j61) = (2 : Int32) then
    zai (zr h p21 i22 3) x32 h fun p100 i101 j102 =>
    zai (zr h p21 i22 13) (((3 : Int32) * (zi h p100 i101 j102)) + x57) h fun p107 i108 j109 =>
    if (zi h p107 i108 j109) = x32 then
      zai (zr h p21 i22 3) x32 h fun p115 i116 j117 =>
      zb (zm214 x0 (((3 : Int32) * (zi h p115 i116 j117)) + x57) h) fun x123 h122 =>
      if x123 = 0 then
        some (.inl (9 : Int32), h122)
      else
        some (.inl (0 : Int32), h122)
    else
      some (.inl (9 : Int32), h)
  else if (zi h p59 i60 j61) = (3 : Int32) then
    zai (zr h p21 i22 36) x1 h fun p89 i90 j91 =>
    zb (zm159 (zi h p89 i90 j91) h) fun x97 h96 =>
    if x57 ≤ x97 then
      some (.inl (0 : Int32), h96)
    else
      some (.inl (10 : Int32), h96)
  else if (zi h p59 i60 j61) = (4 : Int32) then
    zb (zm169 x0 x1 x57 (0 : Int32) (0 : Int32) h) fun x87 h86 =>
    some (.inl x87, h86)
  else if (zi h p59 i60 j61) = (5 : Int32) then
    zar 2 (zr h p21 i22 37) x1 h fun p77 i78 j79 =>
    if (zi h p77 i78 j79) = 0 then
      some (.inl (11 : Int32), h)
    else
      some (.inl (0 : Int32), h)
  else none
theorem zmS171 {x0 : zq} {x1 : Int32} {h : zH} {r : Int32 ⊕ Nat} {h' : zH} (H : zm171 x0 x1 h = some (r, h')) : zAt 171 0 [some (zrv x0), some (zI x1), none, none, none] [] h (zoI r) h' := by
  unfold zm171 at H
  refine zA_aldn rfl rfl rfl ?_
  obtain ⟨p21, i22, e23, c24, H⟩ := zob_e H
  refine zA_gf3 rfl rfl e23 c24 ?_
  refine zA_ldn rfl rfl rfl ?_
  obtain ⟨p25, i26, j27, e28, c29, c30, e31, H⟩ := zai_e H
  refine zA_ial rfl rfl e28 c29 c30 e31 ?_
  obtain ⟨x32, e33, H⟩ := zlet_e H
  refine zA_istn2 rfl rfl e33 (zset1 (L' := [some (zrv x0), some (zI x1), some (zI x32), none, none]) rfl rfl (zpcV rfl rfl)) ?_
  refine zA_push rfl rfl zkk27 ?_
  refine zA_aldn rfl rfl rfl ?_
  refine zA_gf3 rfl rfl e23 c24 ?_
  refine zA_ldn rfl rfl rfl ?_
  obtain ⟨p34, i35, j36, e37, c38, c39, e40, H⟩ := zai_e H
  refine zA_ial rfl rfl e37 c38 c39 e40 ?_
  refine zA_st (st' := [zI ((10 : Int32) * (zi h p34 i35 j36))]) rfl rfl rfl rfl ?_
  refine zA_aldn rfl rfl rfl ?_
  refine zA_gf3 rfl rfl e23 c24 ?_
  refine zA_ldn rfl rfl rfl ?_
  obtain ⟨p41, i42, j43, e44, c45, c46, e47, H⟩ := zai_e H
  refine zA_ial rfl rfl e44 c45 c46 e47 ?_
  refine zA_st (st' := [zI (((10 : Int32) * (zi h p34 i35 j36)) + (zi h p41 i42 j43))]) rfl rfl rfl rfl ?_
  obtain ⟨x48, e49, H⟩ := zlet_e H
  refine zA_istn2 rfl rfl e49 (zset1 (L' := [some (zrv x0), some (zI x1), some (zI x32), some (zI x48), none]) rfl rfl (zpcV rfl rfl)) ?_
  refine zA_aldn rfl rfl rfl ?_
  refine zA_gf3 rfl rfl e23 c24 ?_
  refine zA_ldn rfl rfl rfl ?_
  obtain ⟨p50, i51, j52, e53, c54, c55, e56, H⟩ := zai_e H
  refine zA_ial rfl rfl e53 c54 c55 e56 ?_
  obtain ⟨x57, e58, H⟩ := zlet_e H
  refine zA_ist2 rfl rfl e58 (zset1 (L' := [some (zrv x0), some (zI x1), some (zI x32), some (zI x48), some (zI x57)]) rfl rfl (zpcV rfl rfl)) ?_
  refine zA_aldn rfl rfl rfl ?_
  refine zA_gf3 rfl rfl e23 c24 ?_
  refine zA_ldn rfl rfl rfl ?_
  obtain ⟨p59, i60, j61, e62, c63, c64, e65, H⟩ := zai_e H
  refine zA_ial rfl rfl e62 c63 c64 e65 ?_
  rcases zite_e H with ⟨c66, H⟩ | ⟨c66, H⟩
  · refine zA_swD rfl rfl c66 ?_
    refine zA_tr (L := [some (zrv x0), none, some (zI x32), none, some (zI x57)]) rfl rfl ?_
    refine zA_aldn rfl rfl rfl ?_
    refine zA_aldn rfl rfl rfl ?_
    refine zA_gf3 rfl rfl e23 c24 ?_
    refine zA_ldn rfl rfl rfl ?_
    obtain ⟨p67, i68, j69, e70, c71, c72, e73, H⟩ := zai_e H
    refine zA_ial rfl rfl e70 c71 c72 e73 ?_
    refine zA_ld rfl rfl rfl ?_
    rcases zb_e H with ⟨x75, h74, C, H⟩ | ⟨E, h74, C, H⟩
    · refine zA_callV (as := [zrv x0, zI (zi h p67 i68 j69), zI x57]) (st' := []) rfl rfl rfl (zrcv_Q e23 c24) rfl (zmE170 _ _ _) rfl (zmS170 C) ?_
      rcases zite_e H with ⟨c76, H⟩ | ⟨c76, H⟩
      · refine zA_brT (c := x75 = 0) rfl rfl rfl c76 ?_
        refine zA_tr (L := [none, none, none, none, none]) rfl rfl ?_
        refine zA_push rfl rfl zkk11 ?_
        cases H
        exact zA_ret rfl rfl
      · refine zA_brF (c := x75 = 0) rfl rfl rfl c76 ?_
        refine zA_push rfl rfl zkk7 ?_
        refine zA_go rfl rfl ?_
        refine zA_tr (L := [none, none, none, none, none]) rfl rfl ?_
        cases H
        exact zA_ret rfl rfl
    · cases H
      exact zA_callX (as := [zrv x0, zI (zi h p67 i68 j69), zI x57]) (st' := []) rfl rfl (zrcv_Q e23 c24) rfl (zmE170 _ _ _) rfl rfl rfl (zmS170 C)
  · rcases zite_e H with ⟨c144, H⟩ | ⟨c144, H⟩
    · refine zA_swT (j := 0) (t := 27) rfl rfl c66 (by rw [c144]; decide) rfl ?_
      refine zA_tr (L := [some (zrv x0), some (zI x1), none, some (zI x48), some (zI x57)]) rfl rfl ?_
      refine zA_aldn rfl rfl rfl ?_
      refine zA_ldn rfl rfl rfl ?_
      refine zA_ld rfl rfl rfl ?_
      refine zA_push rfl rfl zkk5 ?_
      refine zA_aldn rfl rfl rfl ?_
      refine zA_gf3 rfl rfl e23 c24 ?_
      refine zA_ldn rfl rfl rfl ?_
      obtain ⟨p135, i136, j137, e138, c139, c140, e141, H⟩ := zai_e H
      refine zA_ial rfl rfl e138 c139 c140 e141 ?_
      rcases zb_e H with ⟨x143, h142, C, H⟩ | ⟨E, h142, C, H⟩
      · refine zA_callV (as := [zrv x0, zI x1, zI x57, zI (1 : Int32), zI (zi h p135 i136 j137)]) (st' := []) rfl rfl rfl (zrcv_Q e23 c24) rfl (zmE169 _ _ _ _ _) rfl (zmS169 C) ?_
        cases H
        exact zA_ret rfl rfl
      · cases H
        exact zA_callX (as := [zrv x0, zI x1, zI x57, zI (1 : Int32), zI (zi h p135 i136 j137)]) (st' := []) rfl rfl (zrcv_Q e23 c24) rfl (zmE169 _ _ _ _ _) rfl rfl rfl (zmS169 C)
    · rcases zite_e H with ⟨c134, H⟩ | ⟨c134, H⟩
      · refine zA_swT (j := 1) (t := 44) rfl rfl c66 (by rw [c134]; decide) rfl ?_
        refine zA_tr (L := [some (zrv x0), some (zI x1), none, none, some (zI x57)]) rfl rfl ?_
        refine zA_aldn rfl rfl rfl ?_
        refine zA_gf0 rfl rfl (Or.inl rfl) e23 c24 ?_
        refine zA_aldn rfl rfl rfl ?_
        refine zA_gf3 rfl rfl e23 c24 ?_
        refine zA_ldn rfl rfl rfl ?_
        obtain ⟨p126, i127, j128, e129, c130, c131, e132, H⟩ := zai_e H
        refine zA_ial rfl rfl e129 c130 c131 e132 ?_
        refine zA_st (st' := [zI ((zi h p21 i22 1) - (zi h p126 i127 j128))]) rfl rfl rfl rfl ?_
        refine zA_ld rfl rfl rfl ?_
        rcases zite_e H with ⟨c133, H⟩ | ⟨c133, H⟩
        · refine zA_brT (c := x57 ≤ ((zi h p21 i22 1) - (zi h p126 i127 j128))) rfl rfl rfl c133 ?_
          refine zA_tr (L := [none, none, none, none, none]) rfl rfl ?_
          refine zA_push rfl rfl zkk7 ?_
          cases H
          exact zA_ret rfl rfl
        · refine zA_brF (c := x57 ≤ ((zi h p21 i22 1) - (zi h p126 i127 j128))) rfl rfl rfl c133 ?_
          refine zA_push rfl rfl zkk0 ?_
          refine zA_go rfl rfl ?_
          refine zA_tr (L := [none, none, none, none, none]) rfl rfl ?_
          cases H
          exact zA_ret rfl rfl
      · rcases zite_e H with ⟨c125, H⟩ | ⟨c125, H⟩
        · refine zA_swT (j := 2) (t := 57) rfl rfl c66 (by rw [c125]; decide) rfl ?_
          refine zA_tr (L := [some (zrv x0), none, some (zI x32), none, some (zI x57)]) rfl rfl ?_
          refine zA_aldn rfl rfl rfl ?_
          refine zA_gf3 rfl rfl e23 c24 ?_
          refine zA_push rfl rfl zkk3 ?_
          refine zA_aldn rfl rfl rfl ?_
          refine zA_gf3 rfl rfl e23 c24 ?_
          refine zA_ldn rfl rfl rfl ?_
          obtain ⟨p100, i101, j102, e103, c104, c105, e106, H⟩ := zai_e H
          refine zA_ial rfl rfl e103 c104 c105 e106 ?_
          refine zA_st (st' := [zI ((3 : Int32) * (zi h p100 i101 j102)), zrv (zr h p21 i22 13)]) rfl rfl rfl rfl ?_
          refine zA_ld rfl rfl rfl ?_
          refine zA_st (st' := [zI (((3 : Int32) * (zi h p100 i101 j102)) + x57), zrv (zr h p21 i22 13)]) rfl rfl rfl rfl ?_
          obtain ⟨p107, i108, j109, e110, c111, c112, e113, H⟩ := zai_e H
          refine zA_ial rfl rfl e110 c111 c112 e113 ?_
          refine zA_ldn rfl rfl rfl ?_
          rcases zite_e H with ⟨c114, H⟩ | ⟨c114, H⟩
          · refine zA_brF' (c := (zi h p107 i108 j109) = x32) rfl rfl rfl c114 ?_
            refine zA_aldn rfl rfl rfl ?_
            refine zA_push rfl rfl zkk3 ?_
            refine zA_aldn rfl rfl rfl ?_
            refine zA_gf3 rfl rfl e23 c24 ?_
            refine zA_ldn rfl rfl rfl ?_
            obtain ⟨p115, i116, j117, e118, c119, c120, e121, H⟩ := zai_e H
            refine zA_ial rfl rfl e118 c119 c120 e121 ?_
            refine zA_st (st' := [zI ((3 : Int32) * (zi h p115 i116 j117)), zrv x0]) rfl rfl rfl rfl ?_
            refine zA_ld rfl rfl rfl ?_
            refine zA_st (st' := [zI (((3 : Int32) * (zi h p115 i116 j117)) + x57), zrv x0]) rfl rfl rfl rfl ?_
            rcases zb_e H with ⟨x123, h122, C, H⟩ | ⟨E, h122, C, H⟩
            · refine zA_callV (as := [zrv x0, zI (((3 : Int32) * (zi h p115 i116 j117)) + x57)]) (st' := []) rfl rfl rfl (zrcv_Q e23 c24) rfl (zmE214 _ _) rfl (zmS214 C) ?_
              rcases zite_e H with ⟨c124, H⟩ | ⟨c124, H⟩
              · refine zA_brF' (c := x123 = 0) rfl rfl rfl c124 ?_
                refine zA_tr (L := [none, none, none, none, none]) rfl rfl ?_
                refine zA_push rfl rfl zkk19 ?_
                refine zA_go rfl rfl ?_
                cases H
                exact zA_ret rfl rfl
              · refine zA_brT' (c := x123 = 0) rfl rfl rfl c124 ?_
                refine zA_tr (L := [none, none, none, none, none]) rfl rfl ?_
                refine zA_push rfl rfl zkk7 ?_
                cases H
                exact zA_ret rfl rfl
            · cases H
              exact zA_callX (as := [zrv x0, zI (((3 : Int32) * (zi h p115 i116 j117)) + x57)]) (st' := []) rfl rfl (zrcv_Q e23 c24) rfl (zmE214 _ _) rfl rfl rfl (zmS214 C)
          · refine zA_brT' (c := (zi h p107 i108 j109) = x32) rfl rfl rfl c114 ?_
            refine zA_tr (L := [none, none, none, none, none]) rfl rfl ?_
            refine zA_push rfl rfl zkk19 ?_
            refine zA_go rfl rfl ?_
            cases H
            exact zA_ret rfl rfl
        · rcases zite_e H with ⟨c99, H⟩ | ⟨c99, H⟩
          · refine zA_swT (j := 3) (t := 85) rfl rfl c66 (by rw [c99]; decide) rfl ?_
            refine zA_tr (L := [some (zrv x0), some (zI x1), none, none, some (zI x57)]) rfl rfl ?_
            refine zA_aldn rfl rfl rfl ?_
            refine zA_gf3 rfl rfl e23 c24 ?_
            refine zA_ldn rfl rfl rfl ?_
            obtain ⟨p89, i90, j91, e92, c93, c94, e95, H⟩ := zai_e H
            refine zA_ial rfl rfl e92 c93 c94 e95 ?_
            rcases zb_e H with ⟨x97, h96, C, H⟩ | ⟨E, h96, C, H⟩
            · refine zA_callV (as := [zI (zi h p89 i90 j91)]) (st' := []) rfl rfl rfl rfl rfl (zmE159 _) rfl (zmS159 C) ?_
              refine zA_ld rfl rfl rfl ?_
              rcases zite_e H with ⟨c98, H⟩ | ⟨c98, H⟩
              · refine zA_brT (c := x57 ≤ x97) rfl rfl rfl c98 ?_
                refine zA_tr (L := [none, none, none, none, none]) rfl rfl ?_
                refine zA_push rfl rfl zkk7 ?_
                cases H
                exact zA_ret rfl rfl
              · refine zA_brF (c := x57 ≤ x97) rfl rfl rfl c98 ?_
                refine zA_push rfl rfl zkk27 ?_
                refine zA_go rfl rfl ?_
                refine zA_tr (L := [none, none, none, none, none]) rfl rfl ?_
                cases H
                exact zA_ret rfl rfl
            · cases H
              exact zA_callX (as := [zI (zi h p89 i90 j91)]) (st' := []) rfl rfl rfl rfl (zmE159 _) rfl rfl rfl (zmS159 C)
          · rcases zite_e H with ⟨c88, H⟩ | ⟨c88, H⟩
            · refine zA_swT (j := 4) (t := 37) rfl rfl c66 (by rw [c88]; decide) rfl ?_
              refine zA_tr (L := [some (zrv x0), some (zI x1), none, none, some (zI x57)]) rfl rfl ?_
              refine zA_aldn rfl rfl rfl ?_
              refine zA_ldn rfl rfl rfl ?_
              refine zA_ld rfl rfl rfl ?_
              refine zA_push rfl rfl zkk7 ?_
              refine zA_push rfl rfl zkk7 ?_
              rcases zb_e H with ⟨x87, h86, C, H⟩ | ⟨E, h86, C, H⟩
              · refine zA_callV (as := [zrv x0, zI x1, zI x57, zI (0 : Int32), zI (0 : Int32)]) (st' := []) rfl rfl rfl (zrcv_Q e23 c24) rfl (zmE169 _ _ _ _ _) rfl (zmS169 C) ?_
                cases H
                exact zA_ret rfl rfl
              · cases H
                exact zA_callX (as := [zrv x0, zI x1, zI x57, zI (0 : Int32), zI (0 : Int32)]) (st' := []) rfl rfl (zrcv_Q e23 c24) rfl (zmE169 _ _ _ _ _) rfl rfl rfl (zmS169 C)
            · rcases zite_e H with ⟨c85, H⟩ | ⟨c85, H⟩
              · refine zA_swT (j := 5) (t := 96) rfl rfl c66 (by rw [c85]; decide) rfl ?_
                refine zA_tr (L := [some (zrv x0), some (zI x1), none, none, none]) rfl rfl ?_
                refine zA_aldn rfl rfl rfl ?_
                refine zA_gf3 rfl rfl e23 c24 ?_
                refine zA_ldn rfl rfl rfl ?_
                obtain ⟨p77, i78, j79, e80, c81, c82, e83, H⟩ := zar_e H
                refine zA_bal rfl rfl e80 c81 c82 e83 ?_
                rcases zite_e H with ⟨c84, H⟩ | ⟨c84, H⟩
                · refine zA_brT (c := (zi h p77 i78 j79) = 0) rfl rfl rfl c84 ?_
                  refine zA_tr (L := [none, none, none, none, none]) rfl rfl ?_
                  refine zA_push rfl rfl zkk38 ?_
                  cases H
                  exact zA_ret rfl rfl
                · refine zA_brF (c := (zi h p77 i78 j79) = 0) rfl rfl rfl c84 ?_
                  refine zA_push rfl rfl zkk7 ?_
                  refine zA_go rfl rfl ?_
                  refine zA_tr (L := [none, none, none, none, none]) rfl rfl ?_
                  cases H
                  exact zA_ret rfl rfl
              · cases H
theorem zmE171 (x0 : zq) (x1 : Int32) : zpad (zPr.2.1 171).1 (zil [zrv x0, zI x1]) = [some (zrv x0), some (zI x1), none, none, none] := by
  simp only [zil_A, zil_I, zil_F, zil_D, zil_N]
  rfl
-- 172: ReleaseHouseModel.why(I)I
def zm172 (x0 : zq) (x1 : Int32) (h : zH) : zRs Int32 :=
  zob 12 x0 fun p21 i22 =>
  zb (zm143 x0 x1 h) fun x26 h25 =>
  if x26 = 0 then
    zb (zm138 x0 (1 : Int32) h25) fun x29 h28 =>
    some (.inl x29, h28)
  else
    zlet (zsi h25 p21 i22 0 (0 : Int32)) fun h30 =>
    zb (zm156 x0 x1 h30) fun x33 h32 =>
    if x33 = 0 then
      if (zi h32 p21 i22 43) = 0 then
        zai (zr h32 p21 i22 33) x1 h32 fun p36 i37 j38 =>
        if (zi h32 p36 i37 j38) = (1 : Int32) then
          some (.inl (1 : Int32), h32)
        else
          zb (zm171 x0 x1 h32) fun x45 h44 =>
          some (.inl x45, h44)
      else
        some (.inl (13 : Int32), h32)
    else
      some (.inl (14 : Int32), h32)
theorem zmS172 {x0 : zq} {x1 : Int32} {h : zH} {r : Int32 ⊕ Nat} {h' : zH} (H : zm172 x0 x1 h = some (r, h')) : zAt 172 0 [some (zrv x0), some (zI x1)] [] h (zoI r) h' := by
  unfold zm172 at H
  refine zA_aldn rfl rfl rfl ?_
  refine zA_ldn rfl rfl rfl ?_
  obtain ⟨p21, i22, e23, c24, H⟩ := zob_e H
  rcases zb_e H with ⟨x26, h25, C, H⟩ | ⟨E, h25, C, H⟩
  · refine zA_callV (as := [zrv x0, zI x1]) (st' := []) rfl rfl rfl (zrcv_Q e23 c24) rfl (zmE143 _ _) rfl (zmS143 C) ?_
    rcases zite_e H with ⟨c27, H⟩ | ⟨c27, H⟩
    · refine zA_brF' (c := x26 = 0) rfl rfl rfl c27 ?_
      refine zA_aldn rfl rfl rfl ?_
      refine zA_push rfl rfl zkk5 ?_
      rcases zb_e H with ⟨x29, h28, C, H⟩ | ⟨E, h28, C, H⟩
      · refine zA_callV (as := [zrv x0, zI (1 : Int32)]) (st' := []) rfl rfl rfl (zrcv_Q e23 c24) rfl (zmE138 _ _) rfl (zmS138 C) ?_
        cases H
        exact zA_ret rfl rfl
      · cases H
        exact zA_callX (as := [zrv x0, zI (1 : Int32)]) (st' := []) rfl rfl (zrcv_Q e23 c24) rfl (zmE138 _ _) rfl rfl rfl (zmS138 C)
    · refine zA_brT' (c := x26 = 0) rfl rfl rfl c27 ?_
      refine zA_aldn rfl rfl rfl ?_
      refine zA_push rfl rfl zkk7 ?_
      obtain ⟨h30, e31, H⟩ := zlet_e H
      refine zA_pf0 rfl rfl e23 c24 e31 ?_
      refine zA_aldn rfl rfl rfl ?_
      refine zA_ldn rfl rfl rfl ?_
      rcases zb_e H with ⟨x33, h32, C, H⟩ | ⟨E, h32, C, H⟩
      · refine zA_callV (as := [zrv x0, zI x1]) (st' := []) rfl rfl rfl (zrcv_Q e23 c24) rfl (zmE156 _ _) rfl (zmS156 C) ?_
        rcases zite_e H with ⟨c34, H⟩ | ⟨c34, H⟩
        · refine zA_brT (c := x33 = 0) rfl rfl rfl c34 ?_
          refine zA_aldn rfl rfl rfl ?_
          refine zA_gf0 rfl rfl (Or.inr rfl) e23 c24 ?_
          rcases zite_e H with ⟨c35, H⟩ | ⟨c35, H⟩
          · refine zA_brT (c := (zi h32 p21 i22 43) = 0) rfl rfl rfl c35 ?_
            refine zA_aldn rfl rfl rfl ?_
            refine zA_gf3 rfl rfl e23 c24 ?_
            refine zA_ldn rfl rfl rfl ?_
            obtain ⟨p36, i37, j38, e39, c40, c41, e42, H⟩ := zai_e H
            refine zA_ial rfl rfl e39 c40 c41 e42 ?_
            refine zA_push rfl rfl zkk5 ?_
            rcases zite_e H with ⟨c43, H⟩ | ⟨c43, H⟩
            · refine zA_brF' (c := (zi h32 p36 i37 j38) = (1 : Int32)) rfl rfl rfl c43 ?_
              refine zA_push rfl rfl zkk5 ?_
              refine zA_go rfl rfl ?_
              refine zA_tr (L := [none, none]) rfl rfl ?_
              cases H
              exact zA_ret rfl rfl
            · refine zA_brT' (c := (zi h32 p36 i37 j38) = (1 : Int32)) rfl rfl rfl c43 ?_
              refine zA_aldn rfl rfl rfl ?_
              refine zA_ldn rfl rfl rfl ?_
              rcases zb_e H with ⟨x45, h44, C, H⟩ | ⟨E, h44, C, H⟩
              · refine zA_callV (as := [zrv x0, zI x1]) (st' := []) rfl rfl rfl (zrcv_Q e23 c24) rfl (zmE171 _ _) rfl (zmS171 C) ?_
                refine zA_tr (L := [none, none]) rfl rfl ?_
                cases H
                exact zA_ret rfl rfl
              · cases H
                exact zA_callX (as := [zrv x0, zI x1]) (st' := []) rfl rfl (zrcv_Q e23 c24) rfl (zmE171 _ _) rfl rfl rfl (zmS171 C)
          · refine zA_brF (c := (zi h32 p21 i22 43) = 0) rfl rfl rfl c35 ?_
            refine zA_push rfl rfl zkk39 ?_
            refine zA_go rfl rfl ?_
            refine zA_tr (L := [none, none]) rfl rfl ?_
            cases H
            exact zA_ret rfl rfl
        · refine zA_brF (c := x33 = 0) rfl rfl rfl c34 ?_
          refine zA_push rfl rfl zkk40 ?_
          refine zA_go rfl rfl ?_
          refine zA_tr (L := [none, none]) rfl rfl ?_
          cases H
          exact zA_ret rfl rfl
      · cases H
        exact zA_callX (as := [zrv x0, zI x1]) (st' := []) rfl rfl (zrcv_Q e23 c24) rfl (zmE156 _ _) rfl rfl rfl (zmS156 C)
  · cases H
    exact zA_callX (as := [zrv x0, zI x1]) (st' := []) rfl rfl (zrcv_Q e23 c24) rfl (zmE143 _ _) rfl rfl rfl (zmS143 C)
theorem zmE172 (x0 : zq) (x1 : Int32) : zpad (zPr.2.1 172).1 (zil [zrv x0, zI x1]) = [some (zrv x0), some (zI x1)] := by
  simp only [zil_A, zil_I, zil_F, zil_D, zil_N]
  rfl
def zm26_36 (k2 : zq → Int32 → zH → zRs Unit) (x0 : zq) (x1 : Int32) (h : zH) : zRs Unit :=
  zlet (x1 + (1 : Int32)) fun x21 =>
  k2 x0 x21 h
theorem zmS26_36 {k2 : zq → Int32 → zH → zRs Unit} (hk2 : ∀ (x0 : zq) (x1 : Int32) (h : zH) (r : Unit ⊕ Nat) (h' : zH), k2 x0 x1 h = some (r, h') → zAt 26 2 [some (zrv x0), some (zI x1), none] [] h (zoU r) h') : ∀ (x0 : zq) (x1 : Int32) (h : zH) (r : Unit ⊕ Nat) (h' : zH), zm26_36 k2 x0 x1 h = some (r, h') → zAt 26 36 [some (zrv x0), some (zI x1), none] [] h (zoU r) h' := by
  intro x0 x1 h r h' H
  unfold zm26_36 at H
  obtain ⟨x21, e22, H⟩ := zlet_e H
  refine zA_inc rfl rfl rfl (e22.trans (congrArg (_ + ·) zkk8)) (zset1 (L' := [some (zrv x0), some (zI x21), none]) rfl rfl (zpcV rfl (zcat_rv _))) ?_
  refine zA_go rfl rfl ?_
  exact zA_tr (L := [some (zrv x0), some (zI x21), none]) rfl rfl (hk2 _ _ _ _ _ H)
def zm26_23 (k2 : zq → Int32 → zH → zRs Unit) (x0 : zq) (x1 : Int32) (x2 : zq) (h : zH) : zRs Unit :=
  zob 9 x2 fun p21 i22 =>
  if (zr h p21 i22 1) = none then
    zm26_36 k2 x0 x1 h
  else
    zob 8 x0 fun p26 i27 =>
    zob 0 (zr h p21 i22 1) fun p30 i31 =>
    zai (zr h p26 i27 1) (zi h p30 i31 7) h fun p34 i35 j36 =>
    zar 1 (zr h p26 i27 1) (zi h p30 i31 7) h fun p41 i42 j43 =>
    zlet (zsi h p41 i42 j43 ((zi h p34 i35 j36) + (1 : Int32))) fun h48 =>
    zm26_36 k2 x0 x1 h48
theorem zmS26_23 {k2 : zq → Int32 → zH → zRs Unit} (hk2 : ∀ (x0 : zq) (x1 : Int32) (h : zH) (r : Unit ⊕ Nat) (h' : zH), k2 x0 x1 h = some (r, h') → zAt 26 2 [some (zrv x0), some (zI x1), none] [] h (zoU r) h') : ∀ (x0 : zq) (x1 : Int32) (x2 : zq) (h : zH) (r : Unit ⊕ Nat) (h' : zH), zm26_23 k2 x0 x1 x2 h = some (r, h') → zAt 26 23 [some (zrv x0), some (zI x1), some (zrv x2)] [] h (zoU r) h' := by
  intro x0 x1 x2 h r h' H
  unfold zm26_23 at H
  refine zA_aldn rfl rfl rfl ?_
  obtain ⟨p21, i22, e23, c24, H⟩ := zob_e H
  refine zA_gf3 rfl rfl e23 c24 ?_
  rcases zite_e H with ⟨c25, H⟩ | ⟨c25, H⟩
  · refine zA_brT (c := (zr h p21 i22 1) = none) rfl rfl zIf_null c25 ?_
    exact zA_tr (L := [some (zrv x0), some (zI x1), none]) rfl rfl (zmS26_36 hk2 _ _ _ _ _ H)
  · refine zA_brF (c := (zr h p21 i22 1) = none) rfl rfl zIf_null c25 ?_
    refine zA_aldn rfl rfl rfl ?_
    obtain ⟨p26, i27, e28, c29, H⟩ := zob_e H
    refine zA_gf3 rfl rfl e28 c29 ?_
    refine zA_aldn rfl rfl rfl ?_
    refine zA_gf3 rfl rfl e23 c24 ?_
    obtain ⟨p30, i31, e32, c33, H⟩ := zob_e H
    refine zA_gf0 rfl rfl (Or.inl rfl) e32 c33 ?_
    refine zA_dup2 rfl rfl rfl (zcat_rv _) ?_
    obtain ⟨p34, i35, j36, e37, c38, c39, e40, H⟩ := zai_e H
    refine zA_ial rfl rfl e37 c38 c39 e40 ?_
    refine zA_push rfl rfl zkk5 ?_
    refine zA_st (st' := [zI ((zi h p34 i35 j36) + (1 : Int32)), zI (zi h p30 i31 7), zrv (zr h p26 i27 1)]) rfl rfl rfl rfl ?_
    obtain ⟨p41, i42, j43, e44, c45, c46, e47, H⟩ := zar_e H
    obtain ⟨h48, e49, H⟩ := zlet_e H
    refine zA_ias rfl rfl e44 c45 c46 e47 e49 ?_
    exact zA_tr (L := [some (zrv x0), some (zI x1), none]) rfl rfl (zmS26_36 hk2 _ _ _ _ _ H)
def zm26_2 (k38 : zq → zH → zRs Unit) : Nat → zq → Int32 → zH → zRs Unit
  | 0, _, _, _ => none
  | n + 1, x0, x1, h =>
    if (3 : Int32) ≤ x1 then
      k38 x0 h
    else
      zob 8 x0 fun p22 i23 =>
      zar 5 (zr h p22 i23 0) x1 h fun p26 i27 j28 =>
      zlet (zr h p26 i27 j28) fun x33 =>
      zob 9 x33 fun p35 i36 =>
      if (zr h p35 i36 0) = none then
        zm26_23 (zm26_2 k38 n) x0 x1 x33 h
      else
        zob 0 (zr h p35 i36 0) fun p40 i41 =>
        zai (zr h p22 i23 1) (zi h p40 i41 7) h fun p44 i45 j46 =>
        zar 1 (zr h p22 i23 1) (zi h p40 i41 7) h fun p51 i52 j53 =>
        zlet (zsi h p51 i52 j53 ((zi h p44 i45 j46) + (1 : Int32))) fun h58 =>
        zm26_23 (zm26_2 k38 n) x0 x1 x33 h58
theorem zmS26_2 {k38 : zq → zH → zRs Unit} (hk38 : ∀ (x0 : zq) (h : zH) (r : Unit ⊕ Nat) (h' : zH), k38 x0 h = some (r, h') → zAt 26 38 [some (zrv x0), none, none] [] h (zoU r) h') : ∀ (n : Nat) (x0 : zq) (x1 : Int32) (h : zH) (r : Unit ⊕ Nat) (h' : zH), zm26_2 k38 n x0 x1 h = some (r, h') → zAt 26 2 [some (zrv x0), some (zI x1), none] [] h (zoU r) h' := by
  intro n
  induction n with
  | zero => intro x0 x1 h r h' H; cases H
  | succ n ih =>
    intro x0 x1 h r h' H
    unfold zm26_2 at H
    refine zA_ldn rfl rfl rfl ?_
    refine zA_push rfl rfl zkk3 ?_
    rcases zite_e H with ⟨c21, H⟩ | ⟨c21, H⟩
    · refine zA_brT (c := (3 : Int32) ≤ x1) rfl rfl rfl c21 ?_
      exact zA_tr (L := [some (zrv x0), none, none]) rfl rfl (hk38 _ _ _ _ H)
    · refine zA_brF (c := (3 : Int32) ≤ x1) rfl rfl rfl c21 ?_
      refine zA_aldn rfl rfl rfl ?_
      obtain ⟨p22, i23, e24, c25, H⟩ := zob_e H
      refine zA_gf3 rfl rfl e24 c25 ?_
      refine zA_ldn rfl rfl rfl ?_
      obtain ⟨p26, i27, j28, e29, c30, c31, e32, H⟩ := zar_e H
      refine zA_aal rfl rfl e29 c30 c31 e32 ?_
      obtain ⟨x33, e34, H⟩ := zlet_e H
      refine zA_astn2 rfl rfl e34 (zset1 (L' := [some (zrv x0), some (zI x1), some (zrv x33)]) (zcat_rv _) rfl (zpcV rfl rfl)) ?_
      refine zA_aldn rfl rfl rfl ?_
      obtain ⟨p35, i36, e37, c38, H⟩ := zob_e H
      refine zA_gf3 rfl rfl e37 c38 ?_
      rcases zite_e H with ⟨c39, H⟩ | ⟨c39, H⟩
      · refine zA_brT (c := (zr h p35 i36 0) = none) rfl rfl zIf_null c39 ?_
        exact zA_tr (L := [some (zrv x0), some (zI x1), some (zrv x33)]) rfl rfl (zmS26_23 ih _ _ _ _ _ _ H)
      · refine zA_brF (c := (zr h p35 i36 0) = none) rfl rfl zIf_null c39 ?_
        refine zA_aldn rfl rfl rfl ?_
        refine zA_gf3 rfl rfl e24 c25 ?_
        refine zA_aldn rfl rfl rfl ?_
        refine zA_gf3 rfl rfl e37 c38 ?_
        obtain ⟨p40, i41, e42, c43, H⟩ := zob_e H
        refine zA_gf0 rfl rfl (Or.inl rfl) e42 c43 ?_
        refine zA_dup2 rfl rfl rfl (zcat_rv _) ?_
        obtain ⟨p44, i45, j46, e47, c48, c49, e50, H⟩ := zai_e H
        refine zA_ial rfl rfl e47 c48 c49 e50 ?_
        refine zA_push rfl rfl zkk5 ?_
        refine zA_st (st' := [zI ((zi h p44 i45 j46) + (1 : Int32)), zI (zi h p40 i41 7), zrv (zr h p22 i23 1)]) rfl rfl rfl rfl ?_
        obtain ⟨p51, i52, j53, e54, c55, c56, e57, H⟩ := zar_e H
        obtain ⟨h58, e59, H⟩ := zlet_e H
        refine zA_ias rfl rfl e54 c55 c56 e57 e59 ?_
        exact zA_tr (L := [some (zrv x0), some (zI x1), some (zrv x33)]) rfl rfl (zmS26_23 ih _ _ _ _ _ _ H)
def zm26_38 (x0 : zq) (h : zH) : zRs Unit :=
  zob 8 x0 fun p21 i22 =>
  if (zi h p21 i22 4) = (-1 : Int32) then
    some (.inl (), h)
  else
    if (zi h p21 i22 5) = (-1 : Int32) then
      some (.inl (), h)
    else
      zai (zr h p21 i22 1) (zi h p21 i22 4) h fun p27 i28 j29 =>
      zlet (if (zi h p27 i28 j29) < (5 : Int32) then (zi h p27 i28 j29) else (5 : Int32)) fun x34 =>
      zai (zr h p21 i22 1) (zi h p21 i22 4) h fun p36 i37 j38 =>
      zar 1 (zr h p21 i22 1) (zi h p21 i22 4) h fun p43 i44 j45 =>
      zlet (zsi h p43 i44 j45 ((zi h p36 i37 j38) - x34)) fun h50 =>
      zai (zr h50 p21 i22 1) (zi h50 p21 i22 5) h50 fun p52 i53 j54 =>
      zar 1 (zr h50 p21 i22 1) (zi h50 p21 i22 5) h50 fun p59 i60 j61 =>
      zlet (zsi h50 p59 i60 j61 ((zi h50 p52 i53 j54) + x34)) fun h66 =>
      zlet (zsi h66 p21 i22 6 ((zi h66 p21 i22 6) + x34)) fun h68 =>
      some (.inl (), h68)
theorem zmS26_38 : ∀ (x0 : zq) (h : zH) (r : Unit ⊕ Nat) (h' : zH), zm26_38 x0 h = some (r, h') → zAt 26 38 [some (zrv x0), none, none] [] h (zoU r) h' := by
  intro x0 h r h' H
  unfold zm26_38 at H
  refine zA_aldn rfl rfl rfl ?_
  obtain ⟨p21, i22, e23, c24, H⟩ := zob_e H
  refine zA_gf0 rfl rfl (Or.inl rfl) e23 c24 ?_
  refine zA_push rfl rfl zkk6 ?_
  rcases zite_e H with ⟨c25, H⟩ | ⟨c25, H⟩
  · refine zA_brT (c := (zi h p21 i22 4) = (-1 : Int32)) rfl rfl rfl c25 ?_
    refine zA_tr (L := [none, none, none]) rfl rfl ?_
    cases H
    exact zA_ret rfl rfl
  · refine zA_brF (c := (zi h p21 i22 4) = (-1 : Int32)) rfl rfl rfl c25 ?_
    refine zA_aldn rfl rfl rfl ?_
    refine zA_gf0 rfl rfl (Or.inl rfl) e23 c24 ?_
    refine zA_push rfl rfl zkk6 ?_
    rcases zite_e H with ⟨c26, H⟩ | ⟨c26, H⟩
    · refine zA_brT (c := (zi h p21 i22 5) = (-1 : Int32)) rfl rfl rfl c26 ?_
      refine zA_tr (L := [none, none, none]) rfl rfl ?_
      cases H
      exact zA_ret rfl rfl
    · refine zA_brF (c := (zi h p21 i22 5) = (-1 : Int32)) rfl rfl rfl c26 ?_
      refine zA_push rfl rfl zkk20 ?_
      refine zA_aldn rfl rfl rfl ?_
      refine zA_gf3 rfl rfl e23 c24 ?_
      refine zA_aldn rfl rfl rfl ?_
      refine zA_gf0 rfl rfl (Or.inl rfl) e23 c24 ?_
      obtain ⟨p27, i28, j29, e30, c31, c32, e33, H⟩ := zai_e H
      refine zA_ial rfl rfl e30 c31 c32 e33 ?_
      refine zA_l6 rfl rfl rfl ?_
      obtain ⟨x34, e35, H⟩ := zlet_e H
      refine zA_istn2 rfl rfl e35 (zset1 (L' := [some (zrv x0), some (zI x34), none]) rfl rfl (zpcV rfl (zcat_rv _))) ?_
      refine zA_aldn rfl rfl rfl ?_
      refine zA_gf3 rfl rfl e23 c24 ?_
      refine zA_aldn rfl rfl rfl ?_
      refine zA_gf0 rfl rfl (Or.inl rfl) e23 c24 ?_
      refine zA_dup2 rfl rfl rfl (zcat_rv _) ?_
      obtain ⟨p36, i37, j38, e39, c40, c41, e42, H⟩ := zai_e H
      refine zA_ial rfl rfl e39 c40 c41 e42 ?_
      refine zA_ldn rfl rfl rfl ?_
      refine zA_st (st' := [zI ((zi h p36 i37 j38) - x34), zI (zi h p21 i22 4), zrv (zr h p21 i22 1)]) rfl rfl rfl rfl ?_
      obtain ⟨p43, i44, j45, e46, c47, c48, e49, H⟩ := zar_e H
      obtain ⟨h50, e51, H⟩ := zlet_e H
      refine zA_ias rfl rfl e46 c47 c48 e49 e51 ?_
      refine zA_aldn rfl rfl rfl ?_
      refine zA_gf3 rfl rfl e23 c24 ?_
      refine zA_aldn rfl rfl rfl ?_
      refine zA_gf0 rfl rfl (Or.inl rfl) e23 c24 ?_
      refine zA_dup2 rfl rfl rfl (zcat_rv _) ?_
      obtain ⟨p52, i53, j54, e55, c56, c57, e58, H⟩ := zai_e H
      refine zA_ial rfl rfl e55 c56 c57 e58 ?_
      refine zA_ldn rfl rfl rfl ?_
      refine zA_st (st' := [zI ((zi h50 p52 i53 j54) + x34), zI (zi h50 p21 i22 5), zrv (zr h50 p21 i22 1)]) rfl rfl rfl rfl ?_
      obtain ⟨p59, i60, j61, e62, c63, c64, e65, H⟩ := zar_e H
      obtain ⟨h66, e67, H⟩ := zlet_e H
      refine zA_ias rfl rfl e62 c63 c64 e65 e67 ?_
      refine zA_aldn rfl rfl rfl ?_
      refine zA_dup rfl rfl (zcat_rv _) ?_
      refine zA_gf0 rfl rfl (Or.inl rfl) e23 c24 ?_
      refine zA_ldn rfl rfl rfl ?_
      refine zA_st (st' := [zI ((zi h66 p21 i22 6) + x34), zrv x0]) rfl rfl rfl rfl ?_
      obtain ⟨h68, e69, H⟩ := zlet_e H
      refine zA_pf0 rfl rfl e23 c24 e69 ?_
      refine zA_tr (L := [none, none, none]) rfl rfl ?_
      cases H
      exact zA_ret rfl rfl
-- 26: ReleaseHouse$Service.growData()V
def zm26 (x0 : zq) (h : zH) : zRs Unit :=
  zm26_2 (zm26_38) zN0 x0 (0 : Int32) h
theorem zmS26 {x0 : zq} {h : zH} {r : Unit ⊕ Nat} {h' : zH} (H : zm26 x0 h = some (r, h')) : zAt 26 0 [some (zrv x0), none, none] [] h (zoU r) h' := by
  unfold zm26 at H
  refine zA_push rfl rfl zkk7 ?_
  refine zA_istn2 rfl rfl rfl (zset1 (L' := [some (zrv x0), some (zI (0 : Int32)), none]) rfl rfl (zpcV rfl (zcat_rv _))) ?_
  exact zA_tr (L := [some (zrv x0), some (zI (0 : Int32)), none]) rfl rfl (zmS26_2 (zmS26_38) zN0 _ _ _ _ _ H)
theorem zmE26 (x0 : zq) : zpad (zPr.2.1 26).1 (zil [zrv x0]) = [some (zrv x0), none, none] := by
  simp only [zil_A, zil_I, zil_F, zil_D, zil_N]
  rfl
def zm75_39 (k5 : zq → zq → Int32 → zH → zRs Unit) (x0 : zq) (x1 : zq) (x2 : Int32) (h : zH) : zRs Unit :=
  zlet (x2 + (1 : Int32)) fun x21 =>
  k5 x0 x1 x21 h
theorem zmS75_39 {k5 : zq → zq → Int32 → zH → zRs Unit} (hk5 : ∀ (x0 : zq) (x1 : zq) (x2 : Int32) (h : zH) (r : Unit ⊕ Nat) (h' : zH), k5 x0 x1 x2 h = some (r, h') → zAt 75 5 [some (zrv x0), some (zrv x1), some (zI x2), none] [] h (zoU r) h') : ∀ (x0 : zq) (x1 : zq) (x2 : Int32) (h : zH) (r : Unit ⊕ Nat) (h' : zH), zm75_39 k5 x0 x1 x2 h = some (r, h') → zAt 75 39 [some (zrv x0), some (zrv x1), some (zI x2), none] [] h (zoU r) h' := by
  intro x0 x1 x2 h r h' H
  unfold zm75_39 at H
  obtain ⟨x21, e22, H⟩ := zlet_e H
  refine zA_inc rfl rfl rfl (e22.trans (congrArg (_ + ·) zkk8)) (zset1 (L' := [some (zrv x0), some (zrv x1), some (zI x21), none]) rfl rfl (zpcV rfl (zcat_rv _))) ?_
  refine zA_go rfl rfl ?_
  exact zA_tr (L := [some (zrv x0), some (zrv x1), some (zI x21), none]) rfl rfl (hk5 _ _ _ _ _ _ H)
def zm75_5 : Nat → zq → zq → Int32 → zH → zRs Unit
  | 0, _, _, _, _ => none
  | n + 1, x0, x1, x2, h =>
    zob 11 x0 fun p21 i22 =>
    znn (zr h p21 i22 2) fun p25 i26 =>
    zif ((ztg p25 == 9) = true) <|
    zif (zi h p25 i26 1 = 1) <|
    if (nI (zln h p25 i26)) ≤ x2 then
      some (.inl (), h)
    else
      znn (zr h p21 i22 2) fun p31 i32 =>
      zif ((ztg p31 == 9) = true) <|
      zif (zi h p31 i32 1 = 1) <|
      if x2 < 0 ∨ zln h p31 i32 ≤ x2.toNatClampNeg ∨ 33 < zln h p31 i32 then none else
      zob 5 (zr h p31 i32 x2.toNatClampNeg) fun p37 i38 =>
      zlet (zr h p31 i32 x2.toNatClampNeg) fun x41 =>
      zob 5 x41 fun p43 i44 =>
      if (zr h p43 i44 7) = x1 then
        zlet (zsr h p43 i44 7 (none : zq)) fun h48 =>
        if (zi h48 p43 i44 2) = 0 then
          zb (zm12 x41 h48) fun x52 h51 =>
          if x52 = (5 : Int32) then
            zlet (zsi h51 p43 i44 8 (1 : Int32)) fun h54 =>
            zob 10 x1 fun p56 i57 =>
            zlet (zsi h54 p56 i57 1 ((zi h54 p56 i57 1) + (1 : Int32))) fun h60 =>
            zm75_39 (zm75_5 n) x0 x1 x2 h60
          else
            zm75_39 (zm75_5 n) x0 x1 x2 h51
        else
          zm75_39 (zm75_5 n) x0 x1 x2 h48
      else
        zm75_39 (zm75_5 n) x0 x1 x2 h
theorem zmS75_5 : ∀ (n : Nat) (x0 : zq) (x1 : zq) (x2 : Int32) (h : zH) (r : Unit ⊕ Nat) (h' : zH), zm75_5 n x0 x1 x2 h = some (r, h') → zAt 75 5 [some (zrv x0), some (zrv x1), some (zI x2), none] [] h (zoU r) h' := by
  intro n
  induction n with
  | zero => intro x0 x1 x2 h r h' H; cases H
  | succ n ih =>
    intro x0 x1 x2 h r h' H
    unfold zm75_5 at H
    refine zA_ldn rfl rfl rfl ?_
    refine zA_aldn rfl rfl rfl ?_
    obtain ⟨p21, i22, e23, c24, H⟩ := zob_e H
    refine zA_gf3 rfl rfl e23 c24 ?_
    obtain ⟨p25, i26, e27, H⟩ := znn_e H
    obtain ⟨c28, H⟩ := zif_e H
    obtain ⟨c29, H⟩ := zif_e H
    refine zA_l2 rfl rfl rfl e27 c28 c29 ?_
    rcases zite_e H with ⟨c30, H⟩ | ⟨c30, H⟩
    · refine zA_brT (c := (nI (zln h p25 i26)) ≤ x2) rfl rfl rfl c30 ?_
      refine zA_tr (L := [none, none, none, none]) rfl rfl ?_
      cases H
      exact zA_ret rfl rfl
    · refine zA_brF (c := (nI (zln h p25 i26)) ≤ x2) rfl rfl rfl c30 ?_
      refine zA_aldn rfl rfl rfl ?_
      refine zA_gf3 rfl rfl e23 c24 ?_
      refine zA_ldn rfl rfl rfl ?_
      obtain ⟨p31, i32, e33, H⟩ := znn_e H
      obtain ⟨c34, H⟩ := zif_e H
      obtain ⟨c35, H⟩ := zif_e H
      rcases zite_e H with ⟨_, H⟩ | ⟨c36, H⟩
      · cases H
      refine zA_l3 rfl rfl rfl e33 c34 c35 c36 ?_
      obtain ⟨p37, i38, e39, c40, H⟩ := zob_e H
      refine zA_cast rfl rfl e39 c40 ?_
      obtain ⟨x41, e42, H⟩ := zlet_e H
      refine zA_astn2 rfl rfl e42 (zset1 (L' := [some (zrv x0), some (zrv x1), some (zI x2), some (zrv x41)]) (zcat_rv _) rfl (zpcV rfl rfl)) ?_
      refine zA_aldn rfl rfl rfl ?_
      obtain ⟨p43, i44, e45, c46, H⟩ := zob_e H
      refine zA_gf3 rfl rfl e45 c46 ?_
      refine zA_aldn rfl rfl rfl ?_
      rcases zite_e H with ⟨c47, H⟩ | ⟨c47, H⟩
      · refine zA_brF' (c := (zr h p43 i44 7) = x1) rfl rfl zIf_ane c47 ?_
        refine zA_aldn rfl rfl rfl ?_
        refine zA_push rfl rfl zkk26 ?_
        obtain ⟨h48, e49, H⟩ := zlet_e H
        refine zA_pf3 rfl rfl e45 c46 e49 ?_
        refine zA_aldn rfl rfl rfl ?_
        refine zA_gf0 rfl rfl (Or.inl rfl) e45 c46 ?_
        rcases zite_e H with ⟨c50, H⟩ | ⟨c50, H⟩
        · refine zA_brF' (c := (zi h48 p43 i44 2) = 0) rfl rfl rfl c50 ?_
          refine zA_aldn rfl rfl rfl ?_
          rcases zb_e H with ⟨x52, h51, C, H⟩ | ⟨E, h51, C, H⟩
          · refine zA_callV (as := [zrv x41]) (st' := []) rfl rfl rfl (zrcv_Q e45 c46) rfl (zmE12 _) rfl (zmS12 C) ?_
            refine zA_push rfl rfl zkk20 ?_
            rcases zite_e H with ⟨c53, H⟩ | ⟨c53, H⟩
            · refine zA_brF' (c := x52 = (5 : Int32)) rfl rfl rfl c53 ?_
              refine zA_aldn rfl rfl rfl ?_
              refine zA_push rfl rfl zkk5 ?_
              obtain ⟨h54, e55, H⟩ := zlet_e H
              refine zA_pf1 rfl rfl e45 c46 (by decide) e55 ?_
              refine zA_aldn rfl rfl rfl ?_
              refine zA_dup rfl rfl (zcat_rv _) ?_
              obtain ⟨p56, i57, e58, c59, H⟩ := zob_e H
              refine zA_gf0 rfl rfl (Or.inl rfl) e58 c59 ?_
              refine zA_push rfl rfl zkk5 ?_
              refine zA_st (st' := [zI ((zi h54 p56 i57 1) + (1 : Int32)), zrv x1]) rfl rfl rfl rfl ?_
              obtain ⟨h60, e61, H⟩ := zlet_e H
              refine zA_pf0 rfl rfl e58 c59 e61 ?_
              exact zA_tr (L := [some (zrv x0), some (zrv x1), some (zI x2), none]) rfl rfl (zmS75_39 ih _ _ _ _ _ _ H)
            · refine zA_brT' (c := x52 = (5 : Int32)) rfl rfl rfl c53 ?_
              exact zA_tr (L := [some (zrv x0), some (zrv x1), some (zI x2), none]) rfl rfl (zmS75_39 ih _ _ _ _ _ _ H)
          · cases H
            exact zA_callX (as := [zrv x41]) (st' := []) rfl rfl (zrcv_Q e45 c46) rfl (zmE12 _) rfl rfl rfl (zmS12 C)
        · refine zA_brT' (c := (zi h48 p43 i44 2) = 0) rfl rfl rfl c50 ?_
          exact zA_tr (L := [some (zrv x0), some (zrv x1), some (zI x2), none]) rfl rfl (zmS75_39 ih _ _ _ _ _ _ H)
      · refine zA_brT' (c := (zr h p43 i44 7) = x1) rfl rfl zIf_ane c47 ?_
        exact zA_tr (L := [some (zrv x0), some (zrv x1), some (zI x2), none]) rfl rfl (zmS75_39 ih _ _ _ _ _ _ H)
-- 75: ReleaseHouse.leaveWith(LReleaseHouse$Train;)V
def zm75 (x0 : zq) (x1 : zq) (h : zH) : zRs Unit :=
  zob 10 x1 fun p21 i22 =>
  zlet (zsi h p21 i22 1 (0 : Int32)) fun h25 =>
  zm75_5 zN0 x0 x1 (0 : Int32) h25
theorem zmS75 {x0 : zq} {x1 : zq} {h : zH} {r : Unit ⊕ Nat} {h' : zH} (H : zm75 x0 x1 h = some (r, h')) : zAt 75 0 [some (zrv x0), some (zrv x1), none, none] [] h (zoU r) h' := by
  unfold zm75 at H
  refine zA_aldn rfl rfl rfl ?_
  refine zA_push rfl rfl zkk7 ?_
  obtain ⟨p21, i22, e23, c24, H⟩ := zob_e H
  obtain ⟨h25, e26, H⟩ := zlet_e H
  refine zA_pf0 rfl rfl e23 c24 e26 ?_
  refine zA_push rfl rfl zkk7 ?_
  refine zA_istn2 rfl rfl rfl (zset1 (L' := [some (zrv x0), some (zrv x1), some (zI (0 : Int32)), none]) rfl rfl (zpcV rfl (zcat_rv _))) ?_
  exact zA_tr (L := [some (zrv x0), some (zrv x1), some (zI (0 : Int32)), none]) rfl rfl (zmS75_5 zN0 _ _ _ _ _ _ H)
theorem zmE75 (x0 : zq) (x1 : zq) : zpad (zPr.2.1 75).1 (zil [zrv x0, zrv x1]) = [some (zrv x0), some (zrv x1), none, none] := by
  simp only [zil_A, zil_I, zil_F, zil_D, zil_N]
  rfl
def zm74_21 (k2 : zq → Int32 → zH → zRs Unit) (x0 : zq) (x1 : Int32) (h : zH) : zRs Unit :=
  zlet (x1 + (1 : Int32)) fun x21 =>
  k2 x0 x21 h
theorem zmS74_21 {k2 : zq → Int32 → zH → zRs Unit} (hk2 : ∀ (x0 : zq) (x1 : Int32) (h : zH) (r : Unit ⊕ Nat) (h' : zH), k2 x0 x1 h = some (r, h') → zAt 74 2 [some (zrv x0), some (zI x1), none] [] h (zoU r) h') : ∀ (x0 : zq) (x1 : Int32) (h : zH) (r : Unit ⊕ Nat) (h' : zH), zm74_21 k2 x0 x1 h = some (r, h') → zAt 74 21 [some (zrv x0), some (zI x1), none] [] h (zoU r) h' := by
  intro x0 x1 h r h' H
  unfold zm74_21 at H
  obtain ⟨x21, e22, H⟩ := zlet_e H
  refine zA_inc rfl rfl rfl (e22.trans (congrArg (_ + ·) zkk8)) (zset1 (L' := [some (zrv x0), some (zI x21), none]) rfl rfl (zpcV rfl (zcat_rv _))) ?_
  refine zA_go rfl rfl ?_
  exact zA_tr (L := [some (zrv x0), some (zI x21), none]) rfl rfl (hk2 _ _ _ _ _ H)
def zm74_2 : Nat → zq → Int32 → zH → zRs Unit
  | 0, _, _, _ => none
  | n + 1, x0, x1, h =>
    zob 11 x0 fun p21 i22 =>
    znn (zr h p21 i22 4) fun p25 i26 =>
    zif ((ztg p25 == 9) = true) <|
    zif (zi h p25 i26 1 = 1) <|
    if (nI (zln h p25 i26)) ≤ x1 then
      some (.inl (), h)
    else
      znn (zr h p21 i22 4) fun p31 i32 =>
      zif ((ztg p31 == 9) = true) <|
      zif (zi h p31 i32 1 = 1) <|
      if x1 < 0 ∨ zln h p31 i32 ≤ x1.toNatClampNeg ∨ 33 < zln h p31 i32 then none else
      zob 10 (zr h p31 i32 x1.toNatClampNeg) fun p37 i38 =>
      zlet (zr h p31 i32 x1.toNatClampNeg) fun x41 =>
      zob 10 x41 fun p43 i44 =>
      if (zi h p43 i44 0) = (zi h p21 i22 11) then
        zb (zm75 x0 x41 h) fun _ h48 =>
        zm74_21 (zm74_2 n) x0 x1 h48
      else
        zm74_21 (zm74_2 n) x0 x1 h
theorem zmS74_2 : ∀ (n : Nat) (x0 : zq) (x1 : Int32) (h : zH) (r : Unit ⊕ Nat) (h' : zH), zm74_2 n x0 x1 h = some (r, h') → zAt 74 2 [some (zrv x0), some (zI x1), none] [] h (zoU r) h' := by
  intro n
  induction n with
  | zero => intro x0 x1 h r h' H; cases H
  | succ n ih =>
    intro x0 x1 h r h' H
    unfold zm74_2 at H
    refine zA_ldn rfl rfl rfl ?_
    refine zA_aldn rfl rfl rfl ?_
    obtain ⟨p21, i22, e23, c24, H⟩ := zob_e H
    refine zA_gf3 rfl rfl e23 c24 ?_
    obtain ⟨p25, i26, e27, H⟩ := znn_e H
    obtain ⟨c28, H⟩ := zif_e H
    obtain ⟨c29, H⟩ := zif_e H
    refine zA_l2 rfl rfl rfl e27 c28 c29 ?_
    rcases zite_e H with ⟨c30, H⟩ | ⟨c30, H⟩
    · refine zA_brT (c := (nI (zln h p25 i26)) ≤ x1) rfl rfl rfl c30 ?_
      refine zA_tr (L := [none, none, none]) rfl rfl ?_
      cases H
      exact zA_ret rfl rfl
    · refine zA_brF (c := (nI (zln h p25 i26)) ≤ x1) rfl rfl rfl c30 ?_
      refine zA_aldn rfl rfl rfl ?_
      refine zA_gf3 rfl rfl e23 c24 ?_
      refine zA_ldn rfl rfl rfl ?_
      obtain ⟨p31, i32, e33, H⟩ := znn_e H
      obtain ⟨c34, H⟩ := zif_e H
      obtain ⟨c35, H⟩ := zif_e H
      rcases zite_e H with ⟨_, H⟩ | ⟨c36, H⟩
      · cases H
      refine zA_l3 rfl rfl rfl e33 c34 c35 c36 ?_
      obtain ⟨p37, i38, e39, c40, H⟩ := zob_e H
      refine zA_cast rfl rfl e39 c40 ?_
      obtain ⟨x41, e42, H⟩ := zlet_e H
      refine zA_astn2 rfl rfl e42 (zset1 (L' := [some (zrv x0), some (zI x1), some (zrv x41)]) (zcat_rv _) rfl (zpcV rfl rfl)) ?_
      refine zA_aldn rfl rfl rfl ?_
      obtain ⟨p43, i44, e45, c46, H⟩ := zob_e H
      refine zA_gf0 rfl rfl (Or.inl rfl) e45 c46 ?_
      refine zA_aldn rfl rfl rfl ?_
      refine zA_gf0 rfl rfl (Or.inl rfl) e23 c24 ?_
      rcases zite_e H with ⟨c47, H⟩ | ⟨c47, H⟩
      · refine zA_brF' (c := (zi h p43 i44 0) = (zi h p21 i22 11)) rfl rfl rfl c47 ?_
        refine zA_aldn rfl rfl rfl ?_
        refine zA_aldn rfl rfl rfl ?_
        rcases zb_e H with ⟨u49, h48, C, H⟩ | ⟨E, h48, C, H⟩
        · refine zA_callU (as := [zrv x0, zrv x41]) (st' := []) rfl rfl rfl (zrcv_Q e23 c24) rfl (zmE75 _ _) rfl (zmS75 C) ?_
          exact zA_tr (L := [some (zrv x0), some (zI x1), none]) rfl rfl (zmS74_21 ih _ _ _ _ _ H)
        · cases H
          exact zA_callX (as := [zrv x0, zrv x41]) (st' := []) rfl rfl (zrcv_Q e23 c24) rfl (zmE75 _ _) rfl rfl rfl (zmS75 C)
      · refine zA_brT' (c := (zi h p43 i44 0) = (zi h p21 i22 11)) rfl rfl rfl c47 ?_
        exact zA_tr (L := [some (zrv x0), some (zI x1), none]) rfl rfl (zmS74_21 ih _ _ _ _ _ H)
-- 74: ReleaseHouse.leaveWithTrains()V
def zm74 (x0 : zq) (h : zH) : zRs Unit :=
  zm74_2 zN0 x0 (0 : Int32) h
theorem zmS74 {x0 : zq} {h : zH} {r : Unit ⊕ Nat} {h' : zH} (H : zm74 x0 h = some (r, h')) : zAt 74 0 [some (zrv x0), none, none] [] h (zoU r) h' := by
  unfold zm74 at H
  refine zA_push rfl rfl zkk7 ?_
  refine zA_istn2 rfl rfl rfl (zset1 (L' := [some (zrv x0), some (zI (0 : Int32)), none]) rfl rfl (zpcV rfl (zcat_rv _))) ?_
  exact zA_tr (L := [some (zrv x0), some (zI (0 : Int32)), none]) rfl rfl (zmS74_2 zN0 _ _ _ _ _ H)
theorem zmE74 (x0 : zq) : zpad (zPr.2.1 74).1 (zil [zrv x0]) = [some (zrv x0), none, none] := by
  simp only [zil_A, zil_I, zil_F, zil_D, zil_N]
  rfl
def zm79_26 (x1 : zq) (x2 : Int32) (x3 : Int32) (x4 : zq) (x5 : zq) (h : zH) : zRs Unit :=
  if x3 ≤ 0 then
    zob 5 x1 fun p22 i23 =>
    zar 2 (zr h p22 i23 9) x2 h fun p26 i27 j28 =>
    zlet (zsi h p26 i27 j28 (1 : Int32)) fun h33 =>
    zob 9 x5 fun p35 i36 =>
    zas (zr h33 p22 i23 10) (zr h33 p35 i36 0) x2 h33 fun p39 i40 p48 i49 j41 =>
    zlet (zsr h33 p39 i40 j41 (some (p48, i49))) fun h46 =>
    zb (zm29 x5 x4 (none : zq) (0 : Int32) h46) fun _ h51 =>
    some (.inl (), h51)
  else
    zob 9 x5 fun p53 i54 =>
    zb (zm29 x5 (zr h p53 i54 0) x4 x3 h) fun _ h57 =>
    some (.inl (), h57)
theorem zmS79_26 : ∀ (x1 : zq) (x2 : Int32) (x3 : Int32) (x4 : zq) (x5 : zq) (h : zH) (r : Unit ⊕ Nat) (h' : zH), zm79_26 x1 x2 x3 x4 x5 h = some (r, h') → zAt 79 26 [none, some (zrv x1), some (zI x2), some (zI x3), some (zrv x4), some (zrv x5), none] [] h (zoU r) h' := by
  intro x1 x2 x3 x4 x5 h r h' H
  unfold zm79_26 at H
  refine zA_ldn rfl rfl rfl ?_
  rcases zite_e H with ⟨c21, H⟩ | ⟨c21, H⟩
  · refine zA_brT (c := x3 ≤ 0) rfl rfl rfl c21 ?_
    refine zA_tr (L := [none, some (zrv x1), some (zI x2), none, some (zrv x4), some (zrv x5), none]) rfl rfl ?_
    refine zA_aldn rfl rfl rfl ?_
    obtain ⟨p22, i23, e24, c25, H⟩ := zob_e H
    refine zA_gf3 rfl rfl e24 c25 ?_
    refine zA_ldn rfl rfl rfl ?_
    refine zA_push rfl rfl zkk5 ?_
    obtain ⟨p26, i27, j28, e29, c30, c31, e32, H⟩ := zar_e H
    obtain ⟨h33, e34, H⟩ := zlet_e H
    refine zA_bas rfl rfl e29 c30 c31 e32 (by decide) e34 ?_
    refine zA_aldn rfl rfl rfl ?_
    refine zA_gf3 rfl rfl e24 c25 ?_
    refine zA_ldn rfl rfl rfl ?_
    refine zA_ald rfl rfl rfl ?_
    obtain ⟨p35, i36, e37, c38, H⟩ := zob_e H
    refine zA_gf3 rfl rfl e37 c38 ?_
    obtain ⟨p39, i40, p48, i49, j41, e42, e50, c43, c44, e45, H⟩ := zas_e H
    obtain ⟨h46, e47, H⟩ := zlet_e H
    refine zA_aas rfl rfl e42 e50 c43 c44 e45 e47 ?_
    refine zA_ald rfl rfl rfl ?_
    refine zA_ald rfl rfl rfl ?_
    refine zA_push rfl rfl zkk26 ?_
    refine zA_push rfl rfl zkk7 ?_
    rcases zb_e H with ⟨u52, h51, C, H⟩ | ⟨E, h51, C, H⟩
    · refine zA_callU (as := [zrv x5, zrv x4, zrv (none : zq), zI (0 : Int32)]) (st' := []) rfl rfl rfl (zrcv_Q e37 c38) rfl (zmE29 _ _ _ _) rfl (zmS29 C) ?_
      refine zA_tr (L := [none, none, none, none, none, none, none]) rfl rfl ?_
      cases H
      exact zA_ret rfl rfl
    · cases H
      exact zA_callX (as := [zrv x5, zrv x4, zrv (none : zq), zI (0 : Int32)]) (st' := []) rfl rfl (zrcv_Q e37 c38) rfl (zmE29 _ _ _ _) rfl rfl rfl (zmS29 C)
  · refine zA_brF (c := x3 ≤ 0) rfl rfl rfl c21 ?_
    refine zA_ald rfl rfl rfl ?_
    refine zA_ald rfl rfl rfl ?_
    obtain ⟨p53, i54, e55, c56, H⟩ := zob_e H
    refine zA_gf3 rfl rfl e55 c56 ?_
    refine zA_ald rfl rfl rfl ?_
    refine zA_ldn rfl rfl rfl ?_
    rcases zb_e H with ⟨u58, h57, C, H⟩ | ⟨E, h57, C, H⟩
    · refine zA_callU (as := [zrv x5, zrv (zr h p53 i54 0), zrv x4, zI x3]) (st' := []) rfl rfl rfl (zrcv_Q e55 c56) rfl (zmE29 _ _ _ _) rfl (zmS29 C) ?_
      refine zA_go rfl rfl ?_
      refine zA_tr (L := [none, none, none, none, none, none, none]) rfl rfl ?_
      cases H
      exact zA_ret rfl rfl
    · cases H
      exact zA_callX (as := [zrv x5, zrv (zr h p53 i54 0), zrv x4, zI x3]) (st' := []) rfl rfl (zrcv_Q e55 c56) rfl (zmE29 _ _ _ _) rfl rfl rfl (zmS29 C)
-- 79: ReleaseHouse.put(LReleaseHouse$Release;II)V
def zm79 (x0 : zq) (x1 : zq) (x2 : Int32) (x3 : Int32) (h : zH) : zRs Unit :=
  zob 5 x1 fun p21 i22 =>
  zlet (zr h p21 i22 0) fun x25 =>
  zob 11 x0 fun p27 i28 =>
  zob 0 x25 fun p31 i32 =>
  zar 5 (zr h p27 i28 6) (zi h p31 i32 1) h fun p35 i36 j37 =>
  zob 8 (zr h p35 i36 j37) fun p42 i43 =>
  zar 5 (zr h p42 i43 0) x2 h fun p46 i47 j48 =>
  zlet (zr h p46 i47 j48) fun x53 =>
  zb (zm66 x0 x25 x53 h) fun x56 h55 =>
  if x56 = none then
    zm79_26 x1 x2 x3 x25 x53 h55
  else
    zob 5 x56 fun p58 i59 =>
    zlet (zsi h55 p58 i59 2 (1 : Int32)) fun h62 =>
    zb (zm58 x0 (zr h62 p58 i59 0) h62) fun _ h64 =>
    zm79_26 x1 x2 x3 x25 x53 h64
theorem zmS79 {x0 : zq} {x1 : zq} {x2 : Int32} {x3 : Int32} {h : zH} {r : Unit ⊕ Nat} {h' : zH} (H : zm79 x0 x1 x2 x3 h = some (r, h')) : zAt 79 0 [some (zrv x0), some (zrv x1), some (zI x2), some (zI x3), none, none, none] [] h (zoU r) h' := by
  unfold zm79 at H
  refine zA_aldn rfl rfl rfl ?_
  obtain ⟨p21, i22, e23, c24, H⟩ := zob_e H
  refine zA_gf3 rfl rfl e23 c24 ?_
  obtain ⟨x25, e26, H⟩ := zlet_e H
  refine zA_ast2 rfl rfl e26 (zset1 (L' := [some (zrv x0), some (zrv x1), some (zI x2), some (zI x3), some (zrv x25), none, none]) (zcat_rv _) rfl (zpcV rfl rfl)) ?_
  refine zA_aldn rfl rfl rfl ?_
  obtain ⟨p27, i28, e29, c30, H⟩ := zob_e H
  refine zA_gf3 rfl rfl e29 c30 ?_
  refine zA_ald rfl rfl rfl ?_
  obtain ⟨p31, i32, e33, c34, H⟩ := zob_e H
  refine zA_gf0 rfl rfl (Or.inl rfl) e33 c34 ?_
  obtain ⟨p35, i36, j37, e38, c39, c40, e41, H⟩ := zar_e H
  refine zA_aal rfl rfl e38 c39 c40 e41 ?_
  obtain ⟨p42, i43, e44, c45, H⟩ := zob_e H
  refine zA_gf3 rfl rfl e44 c45 ?_
  refine zA_ldn rfl rfl rfl ?_
  obtain ⟨p46, i47, j48, e49, c50, c51, e52, H⟩ := zar_e H
  refine zA_aal rfl rfl e49 c50 c51 e52 ?_
  obtain ⟨x53, e54, H⟩ := zlet_e H
  refine zA_ast2 rfl rfl e54 (zset1 (L' := [some (zrv x0), some (zrv x1), some (zI x2), some (zI x3), some (zrv x25), some (zrv x53), none]) (zcat_rv _) rfl (zpcV rfl (zcat_rv _))) ?_
  refine zA_aldn rfl rfl rfl ?_
  refine zA_ald rfl rfl rfl ?_
  refine zA_ald rfl rfl rfl ?_
  rcases zb_e H with ⟨x56, h55, C, H⟩ | ⟨E, h55, C, H⟩
  · refine zA_callV (as := [zrv x0, zrv x25, zrv x53]) (st' := []) rfl rfl rfl (zrcv_Q e29 c30) rfl (zmE66 _ _ _) rfl (zmS66 C) ?_
    refine zA_ast2 rfl rfl rfl (zset1 (L' := [some (zrv x0), some (zrv x1), some (zI x2), some (zI x3), some (zrv x25), some (zrv x53), some (zrv x56)]) (zcat_rv _) rfl (zpcV rfl (zcat_rv _))) ?_
    refine zA_ald rfl rfl rfl ?_
    rcases zite_e H with ⟨c57, H⟩ | ⟨c57, H⟩
    · refine zA_brT (c := x56 = none) rfl rfl zIf_null c57 ?_
      exact zA_tr (L := [none, some (zrv x1), some (zI x2), some (zI x3), some (zrv x25), some (zrv x53), none]) rfl rfl (zmS79_26 _ _ _ _ _ _ _ _ H)
    · refine zA_brF (c := x56 = none) rfl rfl zIf_null c57 ?_
      refine zA_ald rfl rfl rfl ?_
      refine zA_push rfl rfl zkk5 ?_
      obtain ⟨p58, i59, e60, c61, H⟩ := zob_e H
      obtain ⟨h62, e63, H⟩ := zlet_e H
      refine zA_pf0 rfl rfl e60 c61 e63 ?_
      refine zA_aldn rfl rfl rfl ?_
      refine zA_ald rfl rfl rfl ?_
      refine zA_gf3 rfl rfl e60 c61 ?_
      rcases zb_e H with ⟨u65, h64, C, H⟩ | ⟨E, h64, C, H⟩
      · refine zA_callU (as := [zrv x0, zrv (zr h62 p58 i59 0)]) (st' := []) rfl rfl rfl (zrcv_Q e29 c30) rfl (zmE58 _ _) rfl (zmS58 C) ?_
        exact zA_tr (L := [none, some (zrv x1), some (zI x2), some (zI x3), some (zrv x25), some (zrv x53), none]) rfl rfl (zmS79_26 _ _ _ _ _ _ _ _ H)
      · cases H
        exact zA_callX (as := [zrv x0, zrv (zr h62 p58 i59 0)]) (st' := []) rfl rfl (zrcv_Q e29 c30) rfl (zmE58 _ _) rfl rfl rfl (zmS58 C)
  · cases H
    exact zA_callX (as := [zrv x0, zrv x25, zrv x53]) (st' := []) rfl rfl (zrcv_Q e29 c30) rfl (zmE66 _ _ _) rfl rfl rfl (zmS66 C)
theorem zmE79 (x0 : zq) (x1 : zq) (x2 : Int32) (x3 : Int32) : zpad (zPr.2.1 79).1 (zil [zrv x0, zrv x1, zI x2, zI x3]) = [some (zrv x0), some (zrv x1), some (zI x2), some (zI x3), none, none, none] := by
  simp only [zil_A, zil_I, zil_F, zil_D, zil_N]
  rfl
-- 78: ReleaseHouse.doEffect(LReleaseHouse$Release;)V
def zm78 (x0 : zq) (x1 : zq) (h : zH) : zRs Unit :=
  zob 11 x0 fun p21 i22 =>
  zob 5 x1 fun p25 i26 =>
  zob 0 (zr h p25 i26 0) fun p29 i30 =>
  zar 5 (zr h p21 i22 6) (zi h p29 i30 1) h fun p33 i34 j35 =>
  zob 8 (zr h p33 i34 j35) fun p40 i41 =>
  zlet (zr h p40 i41 0) fun x44 =>
  zb (zm13 x1 h) fun x47 h46 =>
  zb (zm12 x1 h46) fun x49 h48 =>
  if x49.toInt < 0 ∨ 4 < x49.toInt then
    some (.inl (), h48)
  else if x49 = (0 : Int32) then
    zar 5 x44 x47 h48 fun p105 i106 j107 =>
    zob 9 (zr h48 p105 i106 j107) fun p112 i113 =>
    zb (zm28 (zr h48 p105 i106 j107) (zr h48 p25 i26 0) h48) fun x117 h116 =>
    if x117 = 0 then
      zar 5 x44 x47 h116 fun p119 i120 j121 =>
      zob 9 (zr h116 p119 i120 j121) fun p126 i127 =>
      if (zr h116 p126 i127 0) = (zr h116 p25 i26 0) then
        some (.inl (), h116)
      else
        zb (zm14 x1 h116) fun x132 h131 =>
        zb (zm79 x0 x1 x47 x132 h131) fun _ h133 =>
        some (.inl (), h133)
    else
      zb (zm58 x0 (zr h116 p25 i26 0) h116) fun _ h135 =>
      zb (zm59 x0 x1 (4 : Int32) h135) fun _ h136 =>
      some (.inl (), h136)
  else if x49 = (1 : Int32) then
    some (.inl (), h48)
  else if x49 = (2 : Int32) then
    zar 5 x44 x47 h48 fun p87 i88 j89 =>
    zob 9 (zr h48 p87 i88 j89) fun p94 i95 =>
    zb (zm34 (zr h48 p87 i88 j89) h48) fun x99 h98 =>
    if x99 = (2 : Int32) then
      zb (zm56 x0 x1 h98) fun x102 h101 =>
      some (.inl (), h101)
    else
      some (.inl (), h98)
  else if x49 = (3 : Int32) then
    some (.inl (), h48)
  else if x49 = (4 : Int32) then
    zar 5 x44 x47 h48 fun p51 i52 j53 =>
    zob 9 (zr h48 p51 i52 j53) fun p58 i59 =>
    zb (zm28 (zr h48 p51 i52 j53) (zr h48 p25 i26 0) h48) fun x63 h62 =>
    if x63 = 0 then
      zar 5 x44 x47 h62 fun p65 i66 j67 =>
      zob 9 (zr h62 p65 i66 j67) fun p72 i73 =>
      if (zr h62 p72 i73 0) = (zr h62 p25 i26 0) then
        some (.inl (), h62)
      else
        zb (zm14 x1 h62) fun x78 h77 =>
        zb (zm79 x0 x1 x47 x78 h77) fun _ h79 =>
        some (.inl (), h79)
    else
      zb (zm58 x0 (zr h62 p25 i26 0) h62) fun _ h81 =>
      zb (zm59 x0 x1 (4 : Int32) h81) fun _ h82 =>
      some (.inl (), h82)
  else none
theorem zmS78 {x0 : zq} {x1 : zq} {h : zH} {r : Unit ⊕ Nat} {h' : zH} (H : zm78 x0 x1 h = some (r, h')) : zAt 78 0 [some (zrv x0), some (zrv x1), none, none] [] h (zoU r) h' := by
  unfold zm78 at H
  refine zA_aldn rfl rfl rfl ?_
  obtain ⟨p21, i22, e23, c24, H⟩ := zob_e H
  refine zA_gf3 rfl rfl e23 c24 ?_
  refine zA_aldn rfl rfl rfl ?_
  obtain ⟨p25, i26, e27, c28, H⟩ := zob_e H
  refine zA_gf3 rfl rfl e27 c28 ?_
  obtain ⟨p29, i30, e31, c32, H⟩ := zob_e H
  refine zA_gf0 rfl rfl (Or.inl rfl) e31 c32 ?_
  obtain ⟨p33, i34, j35, e36, c37, c38, e39, H⟩ := zar_e H
  refine zA_aal rfl rfl e36 c37 c38 e39 ?_
  obtain ⟨p40, i41, e42, c43, H⟩ := zob_e H
  refine zA_gf3 rfl rfl e42 c43 ?_
  obtain ⟨x44, e45, H⟩ := zlet_e H
  refine zA_astn2 rfl rfl e45 (zset1 (L' := [some (zrv x0), some (zrv x1), some (zrv x44), none]) (zcat_rv _) rfl (zpcV rfl (zcat_rv _))) ?_
  refine zA_aldn rfl rfl rfl ?_
  rcases zb_e H with ⟨x47, h46, C, H⟩ | ⟨E, h46, C, H⟩
  · refine zA_callV (as := [zrv x1]) (st' := []) rfl rfl rfl (zrcv_Q e27 c28) rfl (zmE13 _) rfl (zmS13 C) ?_
    refine zA_istn2 rfl rfl rfl (zset1 (L' := [some (zrv x0), some (zrv x1), some (zrv x44), some (zI x47)]) rfl rfl (zpcV rfl (zcat_rv _))) ?_
    refine zA_aldn rfl rfl rfl ?_
    rcases zb_e H with ⟨x49, h48, C, H⟩ | ⟨E, h48, C, H⟩
    · refine zA_callV (as := [zrv x1]) (st' := []) rfl rfl rfl (zrcv_Q e27 c28) rfl (zmE12 _) rfl (zmS12 C) ?_
      rcases zite_e H with ⟨c50, H⟩ | ⟨c50, H⟩
      · refine zA_swD rfl rfl c50 ?_
        refine zA_tr (L := [none, none, none, none]) rfl rfl ?_
        cases H
        exact zA_ret rfl rfl
      · rcases zite_e H with ⟨c139, H⟩ | ⟨c139, H⟩
        · refine zA_swT (j := 0) (t := 14) rfl rfl c50 (by rw [c139]; decide) rfl ?_
          refine zA_aldn rfl rfl rfl ?_
          refine zA_ldn rfl rfl rfl ?_
          obtain ⟨p105, i106, j107, e108, c109, c110, e111, H⟩ := zar_e H
          refine zA_aal rfl rfl e108 c109 c110 e111 ?_
          refine zA_aldn rfl rfl rfl ?_
          refine zA_gf3 rfl rfl e27 c28 ?_
          obtain ⟨p112, i113, e114, c115, H⟩ := zob_e H
          rcases zb_e H with ⟨x117, h116, C, H⟩ | ⟨E, h116, C, H⟩
          · refine zA_callV (as := [zrv (zr h48 p105 i106 j107), zrv (zr h48 p25 i26 0)]) (st' := []) rfl rfl rfl (zrcv_Q e114 c115) rfl (zmE28 _ _) rfl (zmS28 C) ?_
            rcases zite_e H with ⟨c118, H⟩ | ⟨c118, H⟩
            · refine zA_brT (c := x117 = 0) rfl rfl rfl c118 ?_
              refine zA_aldn rfl rfl rfl ?_
              refine zA_ldn rfl rfl rfl ?_
              obtain ⟨p119, i120, j121, e122, c123, c124, e125, H⟩ := zar_e H
              refine zA_aal rfl rfl e122 c123 c124 e125 ?_
              obtain ⟨p126, i127, e128, c129, H⟩ := zob_e H
              refine zA_gf3 rfl rfl e128 c129 ?_
              refine zA_aldn rfl rfl rfl ?_
              refine zA_gf3 rfl rfl e27 c28 ?_
              rcases zite_e H with ⟨c130, H⟩ | ⟨c130, H⟩
              · refine zA_brT (c := (zr h116 p126 i127 0) = (zr h116 p25 i26 0)) rfl rfl zIf_aeq c130 ?_
                refine zA_tr (L := [none, none, none, none]) rfl rfl ?_
                cases H
                exact zA_ret rfl rfl
              · refine zA_brF (c := (zr h116 p126 i127 0) = (zr h116 p25 i26 0)) rfl rfl zIf_aeq c130 ?_
                refine zA_aldn rfl rfl rfl ?_
                refine zA_aldn rfl rfl rfl ?_
                refine zA_ldn rfl rfl rfl ?_
                refine zA_aldn rfl rfl rfl ?_
                rcases zb_e H with ⟨x132, h131, C, H⟩ | ⟨E, h131, C, H⟩
                · refine zA_callV (as := [zrv x1]) (st' := [zI x47, zrv x1, zrv x0]) rfl rfl rfl (zrcv_Q e27 c28) rfl (zmE14 _) rfl (zmS14 C) ?_
                  rcases zb_e H with ⟨u134, h133, C, H⟩ | ⟨E, h133, C, H⟩
                  · refine zA_callU (as := [zrv x0, zrv x1, zI x47, zI x132]) (st' := []) rfl rfl rfl (zrcv_Q e23 c24) rfl (zmE79 _ _ _ _) rfl (zmS79 C) ?_
                    refine zA_go rfl rfl ?_
                    refine zA_tr (L := [none, none, none, none]) rfl rfl ?_
                    cases H
                    exact zA_ret rfl rfl
                  · cases H
                    exact zA_callX (as := [zrv x0, zrv x1, zI x47, zI x132]) (st' := []) rfl rfl (zrcv_Q e23 c24) rfl (zmE79 _ _ _ _) rfl rfl rfl (zmS79 C)
                · cases H
                  exact zA_callX (as := [zrv x1]) (st' := [zI x47, zrv x1, zrv x0]) rfl rfl (zrcv_Q e27 c28) rfl (zmE14 _) rfl rfl rfl (zmS14 C)
            · refine zA_brF (c := x117 = 0) rfl rfl rfl c118 ?_
              refine zA_aldn rfl rfl rfl ?_
              refine zA_aldn rfl rfl rfl ?_
              refine zA_gf3 rfl rfl e27 c28 ?_
              rcases zb_e H with ⟨u138, h135, C, H⟩ | ⟨E, h135, C, H⟩
              · refine zA_callU (as := [zrv x0, zrv (zr h116 p25 i26 0)]) (st' := []) rfl rfl rfl (zrcv_Q e23 c24) rfl (zmE58 _ _) rfl (zmS58 C) ?_
                refine zA_aldn rfl rfl rfl ?_
                refine zA_aldn rfl rfl rfl ?_
                refine zA_push rfl rfl zkk9 ?_
                rcases zb_e H with ⟨u137, h136, C, H⟩ | ⟨E, h136, C, H⟩
                · refine zA_callU (as := [zrv x0, zrv x1, zI (4 : Int32)]) (st' := []) rfl rfl rfl (zrcv_Q e23 c24) rfl (zmE59 _ _ _) rfl (zmS59 C) ?_
                  refine zA_go rfl rfl ?_
                  refine zA_tr (L := [none, none, none, none]) rfl rfl ?_
                  cases H
                  exact zA_ret rfl rfl
                · cases H
                  exact zA_callX (as := [zrv x0, zrv x1, zI (4 : Int32)]) (st' := []) rfl rfl (zrcv_Q e23 c24) rfl (zmE59 _ _ _) rfl rfl rfl (zmS59 C)
              · cases H
                exact zA_callX (as := [zrv x0, zrv (zr h116 p25 i26 0)]) (st' := []) rfl rfl (zrcv_Q e23 c24) rfl (zmE58 _ _) rfl rfl rfl (zmS58 C)
          · cases H
            exact zA_callX (as := [zrv (zr h48 p105 i106 j107), zrv (zr h48 p25 i26 0)]) (st' := []) rfl rfl (zrcv_Q e114 c115) rfl (zmE28 _ _) rfl rfl rfl (zmS28 C)
        · rcases zite_e H with ⟨c104, H⟩ | ⟨c104, H⟩
          · refine zA_swT (j := 1) (t := 55) rfl rfl c50 (by rw [c104]; decide) rfl ?_
            refine zA_tr (L := [none, none, none, none]) rfl rfl ?_
            cases H
            exact zA_ret rfl rfl
          · rcases zite_e H with ⟨c103, H⟩ | ⟨c103, H⟩
            · refine zA_swT (j := 2) (t := 44) rfl rfl c50 (by rw [c103]; decide) rfl ?_
              refine zA_aldn rfl rfl rfl ?_
              refine zA_ldn rfl rfl rfl ?_
              obtain ⟨p87, i88, j89, e90, c91, c92, e93, H⟩ := zar_e H
              refine zA_aal rfl rfl e90 c91 c92 e93 ?_
              obtain ⟨p94, i95, e96, c97, H⟩ := zob_e H
              rcases zb_e H with ⟨x99, h98, C, H⟩ | ⟨E, h98, C, H⟩
              · refine zA_callV (as := [zrv (zr h48 p87 i88 j89)]) (st' := []) rfl rfl rfl (zrcv_Q e96 c97) rfl (zmE34 _) rfl (zmS34 C) ?_
                refine zA_push rfl rfl zkk23 ?_
                rcases zite_e H with ⟨c100, H⟩ | ⟨c100, H⟩
                · refine zA_brF' (c := x99 = (2 : Int32)) rfl rfl rfl c100 ?_
                  refine zA_aldn rfl rfl rfl ?_
                  refine zA_aldn rfl rfl rfl ?_
                  rcases zb_e H with ⟨x102, h101, C, H⟩ | ⟨E, h101, C, H⟩
                  · refine zA_callV (as := [zrv x0, zrv x1]) (st' := []) rfl rfl rfl (zrcv_Q e23 c24) rfl (zmE56 _ _) rfl (zmS56 C) ?_
                    refine zA_pop rfl rfl rfl ?_
                    refine zA_go rfl rfl ?_
                    refine zA_tr (L := [none, none, none, none]) rfl rfl ?_
                    cases H
                    exact zA_ret rfl rfl
                  · cases H
                    exact zA_callX (as := [zrv x0, zrv x1]) (st' := []) rfl rfl (zrcv_Q e23 c24) rfl (zmE56 _ _) rfl rfl rfl (zmS56 C)
                · refine zA_brT' (c := x99 = (2 : Int32)) rfl rfl rfl c100 ?_
                  refine zA_tr (L := [none, none, none, none]) rfl rfl ?_
                  cases H
                  exact zA_ret rfl rfl
              · cases H
                exact zA_callX (as := [zrv (zr h48 p87 i88 j89)]) (st' := []) rfl rfl (zrcv_Q e96 c97) rfl (zmE34 _) rfl rfl rfl (zmS34 C)
            · rcases zite_e H with ⟨c86, H⟩ | ⟨c86, H⟩
              · refine zA_swT (j := 3) (t := 55) rfl rfl c50 (by rw [c86]; decide) rfl ?_
                refine zA_tr (L := [none, none, none, none]) rfl rfl ?_
                cases H
                exact zA_ret rfl rfl
              · rcases zite_e H with ⟨c85, H⟩ | ⟨c85, H⟩
                · refine zA_swT (j := 4) (t := 14) rfl rfl c50 (by rw [c85]; decide) rfl ?_
                  refine zA_aldn rfl rfl rfl ?_
                  refine zA_ldn rfl rfl rfl ?_
                  obtain ⟨p51, i52, j53, e54, c55, c56, e57, H⟩ := zar_e H
                  refine zA_aal rfl rfl e54 c55 c56 e57 ?_
                  refine zA_aldn rfl rfl rfl ?_
                  refine zA_gf3 rfl rfl e27 c28 ?_
                  obtain ⟨p58, i59, e60, c61, H⟩ := zob_e H
                  rcases zb_e H with ⟨x63, h62, C, H⟩ | ⟨E, h62, C, H⟩
                  · refine zA_callV (as := [zrv (zr h48 p51 i52 j53), zrv (zr h48 p25 i26 0)]) (st' := []) rfl rfl rfl (zrcv_Q e60 c61) rfl (zmE28 _ _) rfl (zmS28 C) ?_
                    rcases zite_e H with ⟨c64, H⟩ | ⟨c64, H⟩
                    · refine zA_brT (c := x63 = 0) rfl rfl rfl c64 ?_
                      refine zA_aldn rfl rfl rfl ?_
                      refine zA_ldn rfl rfl rfl ?_
                      obtain ⟨p65, i66, j67, e68, c69, c70, e71, H⟩ := zar_e H
                      refine zA_aal rfl rfl e68 c69 c70 e71 ?_
                      obtain ⟨p72, i73, e74, c75, H⟩ := zob_e H
                      refine zA_gf3 rfl rfl e74 c75 ?_
                      refine zA_aldn rfl rfl rfl ?_
                      refine zA_gf3 rfl rfl e27 c28 ?_
                      rcases zite_e H with ⟨c76, H⟩ | ⟨c76, H⟩
                      · refine zA_brT (c := (zr h62 p72 i73 0) = (zr h62 p25 i26 0)) rfl rfl zIf_aeq c76 ?_
                        refine zA_tr (L := [none, none, none, none]) rfl rfl ?_
                        cases H
                        exact zA_ret rfl rfl
                      · refine zA_brF (c := (zr h62 p72 i73 0) = (zr h62 p25 i26 0)) rfl rfl zIf_aeq c76 ?_
                        refine zA_aldn rfl rfl rfl ?_
                        refine zA_aldn rfl rfl rfl ?_
                        refine zA_ldn rfl rfl rfl ?_
                        refine zA_aldn rfl rfl rfl ?_
                        rcases zb_e H with ⟨x78, h77, C, H⟩ | ⟨E, h77, C, H⟩
                        · refine zA_callV (as := [zrv x1]) (st' := [zI x47, zrv x1, zrv x0]) rfl rfl rfl (zrcv_Q e27 c28) rfl (zmE14 _) rfl (zmS14 C) ?_
                          rcases zb_e H with ⟨u80, h79, C, H⟩ | ⟨E, h79, C, H⟩
                          · refine zA_callU (as := [zrv x0, zrv x1, zI x47, zI x78]) (st' := []) rfl rfl rfl (zrcv_Q e23 c24) rfl (zmE79 _ _ _ _) rfl (zmS79 C) ?_
                            refine zA_go rfl rfl ?_
                            refine zA_tr (L := [none, none, none, none]) rfl rfl ?_
                            cases H
                            exact zA_ret rfl rfl
                          · cases H
                            exact zA_callX (as := [zrv x0, zrv x1, zI x47, zI x78]) (st' := []) rfl rfl (zrcv_Q e23 c24) rfl (zmE79 _ _ _ _) rfl rfl rfl (zmS79 C)
                        · cases H
                          exact zA_callX (as := [zrv x1]) (st' := [zI x47, zrv x1, zrv x0]) rfl rfl (zrcv_Q e27 c28) rfl (zmE14 _) rfl rfl rfl (zmS14 C)
                    · refine zA_brF (c := x63 = 0) rfl rfl rfl c64 ?_
                      refine zA_aldn rfl rfl rfl ?_
                      refine zA_aldn rfl rfl rfl ?_
                      refine zA_gf3 rfl rfl e27 c28 ?_
                      rcases zb_e H with ⟨u84, h81, C, H⟩ | ⟨E, h81, C, H⟩
                      · refine zA_callU (as := [zrv x0, zrv (zr h62 p25 i26 0)]) (st' := []) rfl rfl rfl (zrcv_Q e23 c24) rfl (zmE58 _ _) rfl (zmS58 C) ?_
                        refine zA_aldn rfl rfl rfl ?_
                        refine zA_aldn rfl rfl rfl ?_
                        refine zA_push rfl rfl zkk9 ?_
                        rcases zb_e H with ⟨u83, h82, C, H⟩ | ⟨E, h82, C, H⟩
                        · refine zA_callU (as := [zrv x0, zrv x1, zI (4 : Int32)]) (st' := []) rfl rfl rfl (zrcv_Q e23 c24) rfl (zmE59 _ _ _) rfl (zmS59 C) ?_
                          refine zA_go rfl rfl ?_
                          refine zA_tr (L := [none, none, none, none]) rfl rfl ?_
                          cases H
                          exact zA_ret rfl rfl
                        · cases H
                          exact zA_callX (as := [zrv x0, zrv x1, zI (4 : Int32)]) (st' := []) rfl rfl (zrcv_Q e23 c24) rfl (zmE59 _ _ _) rfl rfl rfl (zmS59 C)
                      · cases H
                        exact zA_callX (as := [zrv x0, zrv (zr h62 p25 i26 0)]) (st' := []) rfl rfl (zrcv_Q e23 c24) rfl (zmE58 _ _) rfl rfl rfl (zmS58 C)
                  · cases H
                    exact zA_callX (as := [zrv (zr h48 p51 i52 j53), zrv (zr h48 p25 i26 0)]) (st' := []) rfl rfl (zrcv_Q e60 c61) rfl (zmE28 _ _) rfl rfl rfl (zmS28 C)
                · cases H
    · cases H
      exact zA_callX (as := [zrv x1]) (st' := []) rfl rfl (zrcv_Q e27 c28) rfl (zmE12 _) rfl rfl rfl (zmS12 C)
  · cases H
    exact zA_callX (as := [zrv x1]) (st' := []) rfl rfl (zrcv_Q e27 c28) rfl (zmE13 _) rfl rfl rfl (zmS13 C)
theorem zmE78 (x0 : zq) (x1 : zq) : zpad (zPr.2.1 78).1 (zil [zrv x0, zrv x1]) = [some (zrv x0), some (zrv x1), none, none] := by
  simp only [zil_A, zil_I, zil_F, zil_D, zil_N]
  rfl
-- 80: ReleaseHouse.noteStep(LReleaseHouse$Release;)V
def zm80 (x0 : zq) (x1 : zq) (h : zH) : zRs Unit :=
  zob 5 x1 fun p21 i22 =>
  zob 11 x0 fun p25 i26 =>
  zb (zm11 x1 ((zi h p21 i22 3) + (1 : Int32)) (zi h p25 i26 11) h) fun _ h29 =>
  zob 4 (zr h29 p21 i22 1) fun p30 i31 =>
  if (zi h29 p21 i22 3) < (zi h29 p30 i31 3) then
    some (.inl (), h29)
  else
    zb (zm59 x0 x1 (2 : Int32) h29) fun _ h35 =>
    some (.inl (), h35)
theorem zmS80 {x0 : zq} {x1 : zq} {h : zH} {r : Unit ⊕ Nat} {h' : zH} (H : zm80 x0 x1 h = some (r, h')) : zAt 80 0 [some (zrv x0), some (zrv x1)] [] h (zoU r) h' := by
  unfold zm80 at H
  refine zA_aldn rfl rfl rfl ?_
  refine zA_aldn rfl rfl rfl ?_
  obtain ⟨p21, i22, e23, c24, H⟩ := zob_e H
  refine zA_gf0 rfl rfl (Or.inl rfl) e23 c24 ?_
  refine zA_push rfl rfl zkk5 ?_
  refine zA_st (st' := [zI ((zi h p21 i22 3) + (1 : Int32)), zrv x1]) rfl rfl rfl rfl ?_
  refine zA_aldn rfl rfl rfl ?_
  obtain ⟨p25, i26, e27, c28, H⟩ := zob_e H
  refine zA_gf0 rfl rfl (Or.inl rfl) e27 c28 ?_
  rcases zb_e H with ⟨u37, h29, C, H⟩ | ⟨E, h29, C, H⟩
  · refine zA_callU (as := [zrv x1, zI ((zi h p21 i22 3) + (1 : Int32)), zI (zi h p25 i26 11)]) (st' := []) rfl rfl rfl (zrcv_Q e23 c24) rfl (zmE11 _ _ _) rfl (zmS11 C) ?_
    refine zA_aldn rfl rfl rfl ?_
    refine zA_gf0 rfl rfl (Or.inl rfl) e23 c24 ?_
    refine zA_aldn rfl rfl rfl ?_
    refine zA_gf3 rfl rfl e23 c24 ?_
    obtain ⟨p30, i31, e32, c33, H⟩ := zob_e H
    refine zA_gf0 rfl rfl (Or.inl rfl) e32 c33 ?_
    rcases zite_e H with ⟨c34, H⟩ | ⟨c34, H⟩
    · refine zA_brT (c := (zi h29 p21 i22 3) < (zi h29 p30 i31 3)) rfl rfl rfl c34 ?_
      refine zA_tr (L := [none, none]) rfl rfl ?_
      cases H
      exact zA_ret rfl rfl
    · refine zA_brF (c := (zi h29 p21 i22 3) < (zi h29 p30 i31 3)) rfl rfl rfl c34 ?_
      refine zA_aldn rfl rfl rfl ?_
      refine zA_aldn rfl rfl rfl ?_
      refine zA_push rfl rfl zkk23 ?_
      rcases zb_e H with ⟨u36, h35, C, H⟩ | ⟨E, h35, C, H⟩
      · refine zA_callU (as := [zrv x0, zrv x1, zI (2 : Int32)]) (st' := []) rfl rfl rfl (zrcv_Q e27 c28) rfl (zmE59 _ _ _) rfl (zmS59 C) ?_
        refine zA_tr (L := [none, none]) rfl rfl ?_
        cases H
        exact zA_ret rfl rfl
      · cases H
        exact zA_callX (as := [zrv x0, zrv x1, zI (2 : Int32)]) (st' := []) rfl rfl (zrcv_Q e27 c28) rfl (zmE59 _ _ _) rfl rfl rfl (zmS59 C)
  · cases H
    exact zA_callX (as := [zrv x1, zI ((zi h p21 i22 3) + (1 : Int32)), zI (zi h p25 i26 11)]) (st' := []) rfl rfl (zrcv_Q e23 c24) rfl (zmE11 _ _ _) rfl rfl rfl (zmS11 C)
theorem zmE80 (x0 : zq) (x1 : zq) : zpad (zPr.2.1 80).1 (zil [zrv x0, zrv x1]) = [some (zrv x0), some (zrv x1)] := by
  simp only [zil_A, zil_I, zil_F, zil_D, zil_N]
  rfl
-- 77: ReleaseHouse.goOn(LReleaseHouse$Release;)Z
def zm77 (x0 : zq) (x1 : zq) (h : zH) : zRs Int32 :=
  zob 11 x0 fun p21 i22 =>
  if (zi h p21 i22 12) = (1 : Int32) then
    zlet (zsi h p21 i22 13 (1 : Int32)) fun h26 =>
    some (.inl (0 : Int32), h26)
  else
    zb (zm78 x0 x1 h) fun _ h28 =>
    zob 5 x1 fun p29 i30 =>
    zob 0 (zr h28 p29 i30 0) fun p33 i34 =>
    zar 5 (zr h28 p21 i22 6) (zi h28 p33 i34 1) h28 fun p37 i38 j39 =>
    zb (zm60 x0 (zr h28 p37 i38 j39) h28) fun _ h44 =>
    zb (zm10 x1 h44) fun x46 h45 =>
    if (zi h45 p21 i22 12) = (2 : Int32) then
      zlet (zsi h45 p21 i22 13 (1 : Int32)) fun h48 =>
      zif (x46 = 0 ∨ x46 = 1) <|
      some (.inl x46, h48)
    else
      if x46 = 0 then
        zb (zm80 x0 x1 h45) fun _ h52 =>
        some (.inl (1 : Int32), h52)
      else
        some (.inl (1 : Int32), h45)
theorem zmS77 {x0 : zq} {x1 : zq} {h : zH} {r : Int32 ⊕ Nat} {h' : zH} (H : zm77 x0 x1 h = some (r, h')) : zAt 77 0 [some (zrv x0), some (zrv x1), none] [] h (zoI r) h' := by
  unfold zm77 at H
  refine zA_aldn rfl rfl rfl ?_
  obtain ⟨p21, i22, e23, c24, H⟩ := zob_e H
  refine zA_gf0 rfl rfl (Or.inl rfl) e23 c24 ?_
  refine zA_push rfl rfl zkk5 ?_
  rcases zite_e H with ⟨c25, H⟩ | ⟨c25, H⟩
  · refine zA_brF' (c := (zi h p21 i22 12) = (1 : Int32)) rfl rfl rfl c25 ?_
    refine zA_aldn rfl rfl rfl ?_
    refine zA_push rfl rfl zkk5 ?_
    obtain ⟨h26, e27, H⟩ := zlet_e H
    refine zA_pf1 rfl rfl e23 c24 (by decide) e27 ?_
    refine zA_push rfl rfl zkk7 ?_
    cases H
    exact zA_ret rfl (zret_Z (by decide))
  · refine zA_brT' (c := (zi h p21 i22 12) = (1 : Int32)) rfl rfl rfl c25 ?_
    refine zA_aldn rfl rfl rfl ?_
    refine zA_aldn rfl rfl rfl ?_
    rcases zb_e H with ⟨u55, h28, C, H⟩ | ⟨E, h28, C, H⟩
    · refine zA_callU (as := [zrv x0, zrv x1]) (st' := []) rfl rfl rfl (zrcv_Q e23 c24) rfl (zmE78 _ _) rfl (zmS78 C) ?_
      refine zA_aldn rfl rfl rfl ?_
      refine zA_aldn rfl rfl rfl ?_
      refine zA_gf3 rfl rfl e23 c24 ?_
      refine zA_aldn rfl rfl rfl ?_
      obtain ⟨p29, i30, e31, c32, H⟩ := zob_e H
      refine zA_gf3 rfl rfl e31 c32 ?_
      obtain ⟨p33, i34, e35, c36, H⟩ := zob_e H
      refine zA_gf0 rfl rfl (Or.inl rfl) e35 c36 ?_
      obtain ⟨p37, i38, j39, e40, c41, c42, e43, H⟩ := zar_e H
      refine zA_aal rfl rfl e40 c41 c42 e43 ?_
      rcases zb_e H with ⟨u54, h44, C, H⟩ | ⟨E, h44, C, H⟩
      · refine zA_callU (as := [zrv x0, zrv (zr h28 p37 i38 j39)]) (st' := []) rfl rfl rfl (zrcv_Q e23 c24) rfl (zmE60 _ _) rfl (zmS60 C) ?_
        refine zA_aldn rfl rfl rfl ?_
        rcases zb_e H with ⟨x46, h45, C, H⟩ | ⟨E, h45, C, H⟩
        · refine zA_callV (as := [zrv x1]) (st' := []) rfl rfl rfl (zrcv_Q e31 c32) rfl (zmE10 _) rfl (zmS10 C) ?_
          refine zA_istn2 rfl rfl rfl (zset1 (L' := [some (zrv x0), some (zrv x1), some (zI x46)]) rfl rfl (zpcV rfl (zcat_rv _))) ?_
          refine zA_aldn rfl rfl rfl ?_
          refine zA_gf0 rfl rfl (Or.inl rfl) e23 c24 ?_
          refine zA_push rfl rfl zkk23 ?_
          rcases zite_e H with ⟨c47, H⟩ | ⟨c47, H⟩
          · refine zA_brF' (c := (zi h45 p21 i22 12) = (2 : Int32)) rfl rfl rfl c47 ?_
            refine zA_aldn rfl rfl rfl ?_
            refine zA_push rfl rfl zkk5 ?_
            obtain ⟨h48, e49, H⟩ := zlet_e H
            refine zA_pf1 rfl rfl e23 c24 (by decide) e49 ?_
            refine zA_ldn rfl rfl rfl ?_
            obtain ⟨c50, H⟩ := zif_e H
            cases H
            exact zA_ret rfl (zret_Z c50)
          · refine zA_brT' (c := (zi h45 p21 i22 12) = (2 : Int32)) rfl rfl rfl c47 ?_
            refine zA_ldn rfl rfl rfl ?_
            rcases zite_e H with ⟨c51, H⟩ | ⟨c51, H⟩
            · refine zA_brF' (c := x46 = 0) rfl rfl rfl c51 ?_
              refine zA_aldn rfl rfl rfl ?_
              refine zA_aldn rfl rfl rfl ?_
              rcases zb_e H with ⟨u53, h52, C, H⟩ | ⟨E, h52, C, H⟩
              · refine zA_callU (as := [zrv x0, zrv x1]) (st' := []) rfl rfl rfl (zrcv_Q e23 c24) rfl (zmE80 _ _) rfl (zmS80 C) ?_
                refine zA_tr (L := [none, none, none]) rfl rfl ?_
                refine zA_push rfl rfl zkk5 ?_
                cases H
                exact zA_ret rfl (zret_Z (by decide))
              · cases H
                exact zA_callX (as := [zrv x0, zrv x1]) (st' := []) rfl rfl (zrcv_Q e23 c24) rfl (zmE80 _ _) rfl rfl rfl (zmS80 C)
            · refine zA_brT' (c := x46 = 0) rfl rfl rfl c51 ?_
              refine zA_tr (L := [none, none, none]) rfl rfl ?_
              refine zA_push rfl rfl zkk5 ?_
              cases H
              exact zA_ret rfl (zret_Z (by decide))
        · cases H
          exact zA_callX (as := [zrv x1]) (st' := []) rfl rfl (zrcv_Q e31 c32) rfl (zmE10 _) rfl rfl rfl (zmS10 C)
      · cases H
        exact zA_callX (as := [zrv x0, zrv (zr h28 p37 i38 j39)]) (st' := []) rfl rfl (zrcv_Q e23 c24) rfl (zmE60 _ _) rfl rfl rfl (zmS60 C)
    · cases H
      exact zA_callX (as := [zrv x0, zrv x1]) (st' := []) rfl rfl (zrcv_Q e23 c24) rfl (zmE78 _ _) rfl rfl rfl (zmS78 C)
theorem zmE77 (x0 : zq) (x1 : zq) : zpad (zPr.2.1 77).1 (zil [zrv x0, zrv x1]) = [some (zrv x0), some (zrv x1), none] := by
  simp only [zil_A, zil_I, zil_F, zil_D, zil_N]
  rfl
def zm76_35 (k4 : zq → Int32 → Int32 → Int32 → zH → zRs Int32) (x0 : zq) (x1 : Int32) (x2 : Int32) (x3 : Int32) (h : zH) : zRs Int32 :=
  zlet (x3 + (1 : Int32)) fun x21 =>
  k4 x0 x1 x2 x21 h
theorem zmS76_35 {k4 : zq → Int32 → Int32 → Int32 → zH → zRs Int32} (hk4 : ∀ (x0 : zq) (x1 : Int32) (x2 : Int32) (x3 : Int32) (h : zH) (r : Int32 ⊕ Nat) (h' : zH), k4 x0 x1 x2 x3 h = some (r, h') → zAt 76 4 [some (zrv x0), some (zI x1), some (zI x2), some (zI x3), none] [] h (zoI r) h') : ∀ (x0 : zq) (x1 : Int32) (x2 : Int32) (x3 : Int32) (h : zH) (r : Int32 ⊕ Nat) (h' : zH), zm76_35 k4 x0 x1 x2 x3 h = some (r, h') → zAt 76 35 [some (zrv x0), some (zI x1), some (zI x2), some (zI x3), none] [] h (zoI r) h' := by
  intro x0 x1 x2 x3 h r h' H
  unfold zm76_35 at H
  obtain ⟨x21, e22, H⟩ := zlet_e H
  refine zA_inc rfl rfl rfl (e22.trans (congrArg (_ + ·) zkk8)) (zset1 (L' := [some (zrv x0), some (zI x1), some (zI x2), some (zI x21), none]) rfl rfl (zpcV rfl rfl)) ?_
  refine zA_go rfl rfl ?_
  exact zA_tr (L := [some (zrv x0), some (zI x1), some (zI x2), some (zI x21), none]) rfl rfl (hk4 _ _ _ _ _ _ _ H)
def zm76_4 : Nat → zq → Int32 → Int32 → Int32 → zH → zRs Int32
  | 0, _, _, _, _, _ => none
  | n + 1, x0, x1, x2, x3, h =>
    zob 11 x0 fun p21 i22 =>
    znn (zr h p21 i22 2) fun p25 i26 =>
    zif ((ztg p25 == 9) = true) <|
    zif (zi h p25 i26 1 = 1) <|
    if (nI (zln h p25 i26)) ≤ x3 then
      some (.inl x2, h)
    else
      if (zi h p21 i22 13) = 0 then
        znn (zr h p21 i22 2) fun p32 i33 =>
        zif ((ztg p32 == 9) = true) <|
        zif (zi h p32 i33 1 = 1) <|
        if x3 < 0 ∨ zln h p32 i33 ≤ x3.toNatClampNeg ∨ 33 < zln h p32 i33 then none else
        zob 5 (zr h p32 i33 x3.toNatClampNeg) fun p38 i39 =>
        zlet (zr h p32 i33 x3.toNatClampNeg) fun x42 =>
        zob 5 x42 fun p44 i45 =>
        zob 0 (zr h p44 i45 0) fun p48 i49 =>
        if (zi h p48 i49 8) = x1 then
          if (zi h p44 i45 2) = 0 then
            zb (zm64 x0 x42 h) fun x55 h54 =>
            if x55 = 0 then
              zb (zm77 x0 x42 h54) fun x58 h57 =>
              if x58 = 0 then
                zm76_35 (zm76_4 n) x0 x1 x2 x3 h57
              else
                zlet (x2 + (1 : Int32)) fun x60 =>
                zm76_35 (zm76_4 n) x0 x1 x60 x3 h57
            else
              zm76_35 (zm76_4 n) x0 x1 x2 x3 h54
          else
            zm76_35 (zm76_4 n) x0 x1 x2 x3 h
        else
          zm76_35 (zm76_4 n) x0 x1 x2 x3 h
      else
        some (.inl x2, h)
theorem zmS76_4 : ∀ (n : Nat) (x0 : zq) (x1 : Int32) (x2 : Int32) (x3 : Int32) (h : zH) (r : Int32 ⊕ Nat) (h' : zH), zm76_4 n x0 x1 x2 x3 h = some (r, h') → zAt 76 4 [some (zrv x0), some (zI x1), some (zI x2), some (zI x3), none] [] h (zoI r) h' := by
  intro n
  induction n with
  | zero => intro x0 x1 x2 x3 h r h' H; cases H
  | succ n ih =>
    intro x0 x1 x2 x3 h r h' H
    unfold zm76_4 at H
    refine zA_ldn rfl rfl rfl ?_
    refine zA_aldn rfl rfl rfl ?_
    obtain ⟨p21, i22, e23, c24, H⟩ := zob_e H
    refine zA_gf3 rfl rfl e23 c24 ?_
    obtain ⟨p25, i26, e27, H⟩ := znn_e H
    obtain ⟨c28, H⟩ := zif_e H
    obtain ⟨c29, H⟩ := zif_e H
    refine zA_l2 rfl rfl rfl e27 c28 c29 ?_
    rcases zite_e H with ⟨c30, H⟩ | ⟨c30, H⟩
    · refine zA_brT (c := (nI (zln h p25 i26)) ≤ x3) rfl rfl rfl c30 ?_
      refine zA_tr (L := [none, none, some (zI x2), none, none]) rfl rfl ?_
      refine zA_ldn rfl rfl rfl ?_
      cases H
      exact zA_ret rfl rfl
    · refine zA_brF (c := (nI (zln h p25 i26)) ≤ x3) rfl rfl rfl c30 ?_
      refine zA_aldn rfl rfl rfl ?_
      refine zA_gf0 rfl rfl (Or.inr rfl) e23 c24 ?_
      rcases zite_e H with ⟨c31, H⟩ | ⟨c31, H⟩
      · refine zA_brF' (c := (zi h p21 i22 13) = 0) rfl rfl rfl c31 ?_
        refine zA_aldn rfl rfl rfl ?_
        refine zA_gf3 rfl rfl e23 c24 ?_
        refine zA_ldn rfl rfl rfl ?_
        obtain ⟨p32, i33, e34, H⟩ := znn_e H
        obtain ⟨c35, H⟩ := zif_e H
        obtain ⟨c36, H⟩ := zif_e H
        rcases zite_e H with ⟨_, H⟩ | ⟨c37, H⟩
        · cases H
        refine zA_l3 rfl rfl rfl e34 c35 c36 c37 ?_
        obtain ⟨p38, i39, e40, c41, H⟩ := zob_e H
        refine zA_cast rfl rfl e40 c41 ?_
        obtain ⟨x42, e43, H⟩ := zlet_e H
        refine zA_ast2 rfl rfl e43 (zset1 (L' := [some (zrv x0), some (zI x1), some (zI x2), some (zI x3), some (zrv x42)]) (zcat_rv _) rfl (zpcV rfl rfl)) ?_
        refine zA_ald rfl rfl rfl ?_
        obtain ⟨p44, i45, e46, c47, H⟩ := zob_e H
        refine zA_gf3 rfl rfl e46 c47 ?_
        obtain ⟨p48, i49, e50, c51, H⟩ := zob_e H
        refine zA_gf0 rfl rfl (Or.inr rfl) e50 c51 ?_
        refine zA_ldn rfl rfl rfl ?_
        rcases zite_e H with ⟨c52, H⟩ | ⟨c52, H⟩
        · refine zA_brF' (c := (zi h p48 i49 8) = x1) rfl rfl rfl c52 ?_
          refine zA_ald rfl rfl rfl ?_
          refine zA_gf0 rfl rfl (Or.inl rfl) e46 c47 ?_
          rcases zite_e H with ⟨c53, H⟩ | ⟨c53, H⟩
          · refine zA_brF' (c := (zi h p44 i45 2) = 0) rfl rfl rfl c53 ?_
            refine zA_aldn rfl rfl rfl ?_
            refine zA_ald rfl rfl rfl ?_
            rcases zb_e H with ⟨x55, h54, C, H⟩ | ⟨E, h54, C, H⟩
            · refine zA_callV (as := [zrv x0, zrv x42]) (st' := []) rfl rfl rfl (zrcv_Q e23 c24) rfl (zmE64 _ _) rfl (zmS64 C) ?_
              rcases zite_e H with ⟨c56, H⟩ | ⟨c56, H⟩
              · refine zA_brF' (c := x55 = 0) rfl rfl rfl c56 ?_
                refine zA_aldn rfl rfl rfl ?_
                refine zA_ald rfl rfl rfl ?_
                rcases zb_e H with ⟨x58, h57, C, H⟩ | ⟨E, h57, C, H⟩
                · refine zA_callV (as := [zrv x0, zrv x42]) (st' := []) rfl rfl rfl (zrcv_Q e23 c24) rfl (zmE77 _ _) rfl (zmS77 C) ?_
                  rcases zite_e H with ⟨c59, H⟩ | ⟨c59, H⟩
                  · refine zA_brT (c := x58 = 0) rfl rfl rfl c59 ?_
                    exact zA_tr (L := [some (zrv x0), some (zI x1), some (zI x2), some (zI x3), none]) rfl rfl (zmS76_35 ih _ _ _ _ _ _ _ H)
                  · refine zA_brF (c := x58 = 0) rfl rfl rfl c59 ?_
                    obtain ⟨x60, e61, H⟩ := zlet_e H
                    refine zA_inc rfl rfl rfl (e61.trans (congrArg (_ + ·) zkk8)) (zset1 (L' := [some (zrv x0), some (zI x1), some (zI x60), some (zI x3), some (zrv x42)]) rfl rfl (zpcV rfl rfl)) ?_
                    exact zA_tr (L := [some (zrv x0), some (zI x1), some (zI x60), some (zI x3), none]) rfl rfl (zmS76_35 ih _ _ _ _ _ _ _ H)
                · cases H
                  exact zA_callX (as := [zrv x0, zrv x42]) (st' := []) rfl rfl (zrcv_Q e23 c24) rfl (zmE77 _ _) rfl rfl rfl (zmS77 C)
              · refine zA_brT' (c := x55 = 0) rfl rfl rfl c56 ?_
                exact zA_tr (L := [some (zrv x0), some (zI x1), some (zI x2), some (zI x3), none]) rfl rfl (zmS76_35 ih _ _ _ _ _ _ _ H)
            · cases H
              exact zA_callX (as := [zrv x0, zrv x42]) (st' := []) rfl rfl (zrcv_Q e23 c24) rfl (zmE64 _ _) rfl rfl rfl (zmS64 C)
          · refine zA_brT' (c := (zi h p44 i45 2) = 0) rfl rfl rfl c53 ?_
            exact zA_tr (L := [some (zrv x0), some (zI x1), some (zI x2), some (zI x3), none]) rfl rfl (zmS76_35 ih _ _ _ _ _ _ _ H)
        · refine zA_brT' (c := (zi h p48 i49 8) = x1) rfl rfl rfl c52 ?_
          exact zA_tr (L := [some (zrv x0), some (zI x1), some (zI x2), some (zI x3), none]) rfl rfl (zmS76_35 ih _ _ _ _ _ _ _ H)
      · refine zA_brT' (c := (zi h p21 i22 13) = 0) rfl rfl rfl c31 ?_
        refine zA_tr (L := [none, none, some (zI x2), none, none]) rfl rfl ?_
        refine zA_ldn rfl rfl rfl ?_
        cases H
        exact zA_ret rfl rfl
-- 76: ReleaseHouse.takeTurns(Z)I
def zm76 (x0 : zq) (x1 : Int32) (h : zH) : zRs Int32 :=
  zm76_4 zN0 x0 x1 (0 : Int32) (0 : Int32) h
theorem zmS76 {x0 : zq} {x1 : Int32} {h : zH} {r : Int32 ⊕ Nat} {h' : zH} (H : zm76 x0 x1 h = some (r, h')) : zAt 76 0 [some (zrv x0), some (zI x1), none, none, none] [] h (zoI r) h' := by
  unfold zm76 at H
  refine zA_push rfl rfl zkk7 ?_
  refine zA_istn2 rfl rfl rfl (zset1 (L' := [some (zrv x0), some (zI x1), some (zI (0 : Int32)), none, none]) rfl rfl (zpcV rfl rfl)) ?_
  refine zA_push rfl rfl zkk7 ?_
  refine zA_istn2 rfl rfl rfl (zset1 (L' := [some (zrv x0), some (zI x1), some (zI (0 : Int32)), some (zI (0 : Int32)), none]) rfl rfl (zpcV rfl rfl)) ?_
  exact zA_tr (L := [some (zrv x0), some (zI x1), some (zI (0 : Int32)), some (zI (0 : Int32)), none]) rfl rfl (zmS76_4 zN0 _ _ _ _ _ _ _ H)
theorem zmE76 (x0 : zq) (x1 : Int32) : zpad (zPr.2.1 76).1 (zil [zrv x0, zI x1]) = [some (zrv x0), some (zI x1), none, none, none] := by
  simp only [zil_A, zil_I, zil_F, zil_D, zil_N]
  rfl
def zm73_30 (k40 : zq → Int32 → Int32 → Int32 → zH → zRs Int32) : Nat → zq → Int32 → Int32 → Int32 → Int32 → zH → zRs Int32
  | 0, _, _, _, _, _, _ => none
  | n + 1, x0, x1, x2, x3, x4, h =>
    if (4 : Int32) ≤ x4 then
      k40 x0 x1 x2 x3 h
    else
      zob 11 x0 fun p22 i23 =>
      zar 5 (zr h p22 i23 6) x4 h fun p26 i27 j28 =>
      zob 8 (zr h p26 i27 j28) fun p33 i34 =>
      zb (zm26 (zr h p26 i27 j28) h) fun _ h37 =>
      zlet (x4 + (1 : Int32)) fun x38 =>
      zm73_30 k40 n x0 x1 x2 x3 x38 h37
theorem zmS73_30 {k40 : zq → Int32 → Int32 → Int32 → zH → zRs Int32} (hk40 : ∀ (x0 : zq) (x1 : Int32) (x2 : Int32) (x3 : Int32) (h : zH) (r : Int32 ⊕ Nat) (h' : zH), k40 x0 x1 x2 x3 h = some (r, h') → zAt 73 40 [some (zrv x0), some (zI x1), some (zI x2), some (zI x3), none] [] h (zoI r) h') : ∀ (n : Nat) (x0 : zq) (x1 : Int32) (x2 : Int32) (x3 : Int32) (x4 : Int32) (h : zH) (r : Int32 ⊕ Nat) (h' : zH), zm73_30 k40 n x0 x1 x2 x3 x4 h = some (r, h') → zAt 73 30 [some (zrv x0), some (zI x1), some (zI x2), some (zI x3), some (zI x4)] [] h (zoI r) h' := by
  intro n
  induction n with
  | zero => intro x0 x1 x2 x3 x4 h r h' H; cases H
  | succ n ih =>
    intro x0 x1 x2 x3 x4 h r h' H
    unfold zm73_30 at H
    refine zA_ld rfl rfl rfl ?_
    refine zA_push rfl rfl zkk9 ?_
    rcases zite_e H with ⟨c21, H⟩ | ⟨c21, H⟩
    · refine zA_brT (c := (4 : Int32) ≤ x4) rfl rfl rfl c21 ?_
      exact zA_tr (L := [some (zrv x0), some (zI x1), some (zI x2), some (zI x3), none]) rfl rfl (hk40 _ _ _ _ _ _ _ H)
    · refine zA_brF (c := (4 : Int32) ≤ x4) rfl rfl rfl c21 ?_
      refine zA_aldn rfl rfl rfl ?_
      obtain ⟨p22, i23, e24, c25, H⟩ := zob_e H
      refine zA_gf3 rfl rfl e24 c25 ?_
      refine zA_ld rfl rfl rfl ?_
      obtain ⟨p26, i27, j28, e29, c30, c31, e32, H⟩ := zar_e H
      refine zA_aal rfl rfl e29 c30 c31 e32 ?_
      obtain ⟨p33, i34, e35, c36, H⟩ := zob_e H
      rcases zb_e H with ⟨u40, h37, C, H⟩ | ⟨E, h37, C, H⟩
      · refine zA_callU (as := [zrv (zr h p26 i27 j28)]) (st' := []) rfl rfl rfl (zrcv_Q e35 c36) rfl (zmE26 _) rfl (zmS26 C) ?_
        obtain ⟨x38, e39, H⟩ := zlet_e H
        refine zA_inc rfl rfl rfl (e39.trans (congrArg (_ + ·) zkk8)) (zset1 (L' := [some (zrv x0), some (zI x1), some (zI x2), some (zI x3), some (zI x38)]) rfl rfl (zpcV rfl rfl)) ?_
        refine zA_go rfl rfl ?_
        exact zA_tr (L := [some (zrv x0), some (zI x1), some (zI x2), some (zI x3), some (zI x38)]) rfl rfl (ih _ _ _ _ _ _ _ _ H)
      · cases H
        exact zA_callX (as := [zrv (zr h p26 i27 j28)]) (st' := []) rfl rfl (zrcv_Q e35 c36) rfl (zmE26 _) rfl rfl rfl (zmS26 C)
def zm73_40 (k19 : zq → Int32 → Int32 → Int32 → zH → zRs Int32) (x0 : zq) (x1 : Int32) (x2 : Int32) (x3 : Int32) (h : zH) : zRs Int32 :=
  zob 11 x0 fun p21 i22 =>
  zb (zm74 x0 h) fun _ h25 =>
  zb (zm76 x0 (1 : Int32) h25) fun x27 h26 =>
  zlet (x2 + x27) fun x28 =>
  zb (zm76 x0 (0 : Int32) h26) fun x31 h30 =>
  zlet (x28 + x31) fun x32 =>
  zlet (x3 + (1 : Int32)) fun x34 =>
  k19 x0 x1 x32 x34 h30
theorem zmS73_40 {k19 : zq → Int32 → Int32 → Int32 → zH → zRs Int32} (hk19 : ∀ (x0 : zq) (x1 : Int32) (x2 : Int32) (x3 : Int32) (h : zH) (r : Int32 ⊕ Nat) (h' : zH), k19 x0 x1 x2 x3 h = some (r, h') → zAt 73 19 [some (zrv x0), some (zI x1), some (zI x2), some (zI x3), none] [] h (zoI r) h') : ∀ (x0 : zq) (x1 : Int32) (x2 : Int32) (x3 : Int32) (h : zH) (r : Int32 ⊕ Nat) (h' : zH), zm73_40 k19 x0 x1 x2 x3 h = some (r, h') → zAt 73 40 [some (zrv x0), some (zI x1), some (zI x2), some (zI x3), none] [] h (zoI r) h' := by
  intro x0 x1 x2 x3 h r h' H
  unfold zm73_40 at H
  refine zA_aldn rfl rfl rfl ?_
  obtain ⟨p21, i22, e23, c24, H⟩ := zob_e H
  rcases zb_e H with ⟨u36, h25, C, H⟩ | ⟨E, h25, C, H⟩
  · refine zA_callU (as := [zrv x0]) (st' := []) rfl rfl rfl (zrcv_Q e23 c24) rfl (zmE74 _) rfl (zmS74 C) ?_
    refine zA_ldn rfl rfl rfl ?_
    refine zA_aldn rfl rfl rfl ?_
    refine zA_push rfl rfl zkk5 ?_
    rcases zb_e H with ⟨x27, h26, C, H⟩ | ⟨E, h26, C, H⟩
    · refine zA_callV (as := [zrv x0, zI (1 : Int32)]) (st' := [zI x2]) rfl rfl rfl (zrcv_Q e23 c24) rfl (zmE76 _ _) rfl (zmS76 C) ?_
      refine zA_st (st' := [zI (x2 + x27)]) rfl rfl rfl rfl ?_
      obtain ⟨x28, e29, H⟩ := zlet_e H
      refine zA_istn2 rfl rfl e29 (zset1 (L' := [some (zrv x0), some (zI x1), some (zI x28), some (zI x3), none]) rfl rfl (zpcV rfl rfl)) ?_
      refine zA_ldn rfl rfl rfl ?_
      refine zA_aldn rfl rfl rfl ?_
      refine zA_push rfl rfl zkk7 ?_
      rcases zb_e H with ⟨x31, h30, C, H⟩ | ⟨E, h30, C, H⟩
      · refine zA_callV (as := [zrv x0, zI (0 : Int32)]) (st' := [zI x28]) rfl rfl rfl (zrcv_Q e23 c24) rfl (zmE76 _ _) rfl (zmS76 C) ?_
        refine zA_st (st' := [zI (x28 + x31)]) rfl rfl rfl rfl ?_
        obtain ⟨x32, e33, H⟩ := zlet_e H
        refine zA_istn2 rfl rfl e33 (zset1 (L' := [some (zrv x0), some (zI x1), some (zI x32), some (zI x3), none]) rfl rfl (zpcV rfl rfl)) ?_
        obtain ⟨x34, e35, H⟩ := zlet_e H
        refine zA_inc rfl rfl rfl (e35.trans (congrArg (_ + ·) zkk8)) (zset1 (L' := [some (zrv x0), some (zI x1), some (zI x32), some (zI x34), none]) rfl rfl (zpcV rfl rfl)) ?_
        refine zA_go rfl rfl ?_
        exact zA_tr (L := [some (zrv x0), some (zI x1), some (zI x32), some (zI x34), none]) rfl rfl (hk19 _ _ _ _ _ _ _ H)
      · cases H
        exact zA_callX (as := [zrv x0, zI (0 : Int32)]) (st' := [zI x28]) rfl rfl (zrcv_Q e23 c24) rfl (zmE76 _ _) rfl rfl rfl (zmS76 C)
    · cases H
      exact zA_callX (as := [zrv x0, zI (1 : Int32)]) (st' := [zI x2]) rfl rfl (zrcv_Q e23 c24) rfl (zmE76 _ _) rfl rfl rfl (zmS76 C)
  · cases H
    exact zA_callX (as := [zrv x0]) (st' := []) rfl rfl (zrcv_Q e23 c24) rfl (zmE74 _) rfl rfl rfl (zmS74 C)
def zm73_19 : Nat → zq → Int32 → Int32 → Int32 → zH → zRs Int32
  | 0, _, _, _, _, _ => none
  | n + 1, x0, x1, x2, x3, h =>
    if x1 ≤ x3 then
      some (.inl x2, h)
    else
      zob 11 x0 fun p22 i23 =>
      zlet (zsi h p22 i23 11 ((zi h p22 i23 11) + (1 : Int32))) fun h26 =>
      zm73_30 (zm73_40 (zm73_19 n)) zN0 x0 x1 x2 x3 (0 : Int32) h26
theorem zmS73_19 : ∀ (n : Nat) (x0 : zq) (x1 : Int32) (x2 : Int32) (x3 : Int32) (h : zH) (r : Int32 ⊕ Nat) (h' : zH), zm73_19 n x0 x1 x2 x3 h = some (r, h') → zAt 73 19 [some (zrv x0), some (zI x1), some (zI x2), some (zI x3), none] [] h (zoI r) h' := by
  intro n
  induction n with
  | zero => intro x0 x1 x2 x3 h r h' H; cases H
  | succ n ih =>
    intro x0 x1 x2 x3 h r h' H
    unfold zm73_19 at H
    refine zA_ldn rfl rfl rfl ?_
    refine zA_ldn rfl rfl rfl ?_
    rcases zite_e H with ⟨c21, H⟩ | ⟨c21, H⟩
    · refine zA_brT (c := x1 ≤ x3) rfl rfl rfl c21 ?_
      refine zA_tr (L := [none, none, some (zI x2), none, none]) rfl rfl ?_
      refine zA_ldn rfl rfl rfl ?_
      cases H
      exact zA_ret rfl rfl
    · refine zA_brF (c := x1 ≤ x3) rfl rfl rfl c21 ?_
      refine zA_aldn rfl rfl rfl ?_
      refine zA_dup rfl rfl (zcat_rv _) ?_
      obtain ⟨p22, i23, e24, c25, H⟩ := zob_e H
      refine zA_gf0 rfl rfl (Or.inl rfl) e24 c25 ?_
      refine zA_push rfl rfl zkk5 ?_
      refine zA_st (st' := [zI ((zi h p22 i23 11) + (1 : Int32)), zrv x0]) rfl rfl rfl rfl ?_
      obtain ⟨h26, e27, H⟩ := zlet_e H
      refine zA_pf0 rfl rfl e24 c25 e27 ?_
      refine zA_push rfl rfl zkk7 ?_
      refine zA_ist2 rfl rfl rfl (zset1 (L' := [some (zrv x0), some (zI x1), some (zI x2), some (zI x3), some (zI (0 : Int32))]) rfl rfl (zpcV rfl rfl)) ?_
      exact zA_tr (L := [some (zrv x0), some (zI x1), some (zI x2), some (zI x3), some (zI (0 : Int32))]) rfl rfl (zmS73_30 (zmS73_40 ih) zN0 _ _ _ _ _ _ _ _ H)
-- 73: ReleaseHouse.pass(I)I
def zm73 (x0 : zq) (x1 : Int32) (h : zH) : zRs Int32 :=
  zb (zm131 x1 (1 : Int32) (200 : Int32) h) fun _ h21 =>
  zob 11 x0 fun p22 i23 =>
  if ((zi h21 p22 i23 11) + x1) ≤ (20000 : Int32) then
    zm73_19 zN0 x0 x1 (0 : Int32) (0 : Int32) h21
  else
    some (.inr 1, zro h21 1 6)
theorem zmS73 {x0 : zq} {x1 : Int32} {h : zH} {r : Int32 ⊕ Nat} {h' : zH} (H : zm73 x0 x1 h = some (r, h')) : zAt 73 0 [some (zrv x0), some (zI x1), none, none, none] [] h (zoI r) h' := by
  unfold zm73 at H
  refine zA_ldn rfl rfl rfl ?_
  refine zA_push rfl rfl zkk5 ?_
  refine zA_push rfl rfl zkk4 ?_
  rcases zb_e H with ⟨u27, h21, C, H⟩ | ⟨E, h21, C, H⟩
  · refine zA_callU (as := [zI x1, zI (1 : Int32), zI (200 : Int32)]) (st' := []) rfl rfl rfl rfl rfl (zmE131 _ _ _) rfl (zmS131 C) ?_
    refine zA_aldn rfl rfl rfl ?_
    obtain ⟨p22, i23, e24, c25, H⟩ := zob_e H
    refine zA_gf0 rfl rfl (Or.inl rfl) e24 c25 ?_
    refine zA_ldn rfl rfl rfl ?_
    refine zA_st (st' := [zI ((zi h21 p22 i23 11) + x1)]) rfl rfl rfl rfl ?_
    refine zA_push rfl rfl zkk46 ?_
    rcases zite_e H with ⟨c26, H⟩ | ⟨c26, H⟩
    · refine zA_brT (c := ((zi h21 p22 i23 11) + x1) ≤ (20000 : Int32)) rfl rfl rfl c26 ?_
      refine zA_push rfl rfl zkk7 ?_
      refine zA_istn2 rfl rfl rfl (zset1 (L' := [some (zrv x0), some (zI x1), some (zI (0 : Int32)), none, none]) rfl rfl (zpcV rfl rfl)) ?_
      refine zA_push rfl rfl zkk7 ?_
      refine zA_istn2 rfl rfl rfl (zset1 (L' := [some (zrv x0), some (zI x1), some (zI (0 : Int32)), some (zI (0 : Int32)), none]) rfl rfl (zpcV rfl rfl)) ?_
      exact zA_tr (L := [some (zrv x0), some (zI x1), some (zI (0 : Int32)), some (zI (0 : Int32)), none]) rfl rfl (zmS73_19 zN0 _ _ _ _ _ _ _ H)
    · refine zA_brF (c := ((zi h21 p22 i23 11) + x1) ≤ (20000 : Int32)) rfl rfl rfl c26 ?_
      cases H
      exact zA_thr rfl rfl
  · cases H
    exact zA_callX (as := [zI x1, zI (1 : Int32), zI (200 : Int32)]) (st' := []) rfl rfl rfl rfl (zmE131 _ _ _) rfl rfl rfl (zmS131 C)
theorem zmE73 (x0 : zq) (x1 : Int32) : zpad (zPr.2.1 73).1 (zil [zrv x0, zI x1]) = [some (zrv x0), some (zI x1), none, none, none] := by
  simp only [zil_A, zil_I, zil_F, zil_D, zil_N]
  rfl
-- 253: ReleaseHouseLaw.pass(LReleaseHouse;I[J)I
def zm253 (x0 : zq) (x1 : Int32) (x2 : zq) (h : zH) : zRs Int32 :=
  zob 11 x0 fun p21 i22 =>
  zbH [(0, 7, 0, 1), (0, 7, 1, 2)] 4 (zm73 x0 x1 h) fun x26 h25 =>
  zar 3 x2 (0 : Int32) h25 fun p27 i28 j29 =>
  zlet (zsl h25 p27 i28 j29 (x26.toInt64)) fun h34 =>
  some (.inl (0 : Int32), h34)
theorem zmS253 {x0 : zq} {x1 : Int32} {x2 : zq} {h : zH} {r : Int32 ⊕ Nat} {h' : zH} (H : zm253 x0 x1 x2 h = some (r, h')) : zAt 253 0 [some (zrv x0), some (zI x1), some (zrv x2), none] [] h (zoI r) h' := by
  unfold zm253 at H
  refine zA_aldn rfl rfl rfl ?_
  refine zA_push rfl rfl zkk7 ?_
  refine zA_aldn rfl rfl rfl ?_
  refine zA_ldn rfl rfl rfl ?_
  obtain ⟨p21, i22, e23, c24, H⟩ := zob_e H
  rcases zbH_e H with ⟨x26, h25, C, H⟩ | ⟨E, h25, c36, C, hc, H⟩
  · refine zA_callV (as := [zrv x0, zI x1]) (st' := [zI (0 : Int32), zrv x2]) rfl rfl rfl (zrcv_Q e23 c24) rfl (zmE73 _ _) rfl (zmS73 C) ?_
    refine zA_st (st' := [zJ (x26.toInt64), zI (0 : Int32), zrv x2]) rfl rfl rfl rfl ?_
    obtain ⟨p27, i28, j29, e30, c31, c32, e33, H⟩ := zar_e H
    obtain ⟨h34, e35, H⟩ := zlet_e H
    refine zA_las rfl rfl e30 c31 c32 e33 e35 ?_
    refine zA_go rfl rfl ?_
    refine zA_tr (L := [none, none, none, none]) rfl rfl ?_
    refine zA_push rfl rfl zkk7 ?_
    cases H
    exact zA_ret rfl rfl
  · cases H
    exact zA_callH (as := [zrv x0, zI x1]) (st' := [zI (0 : Int32), zrv x2]) rfl rfl (zrcv_Q e23 c24) rfl (zmE73 _ _) rfl rfl rfl (List.cons_ne_nil _ _) hc (zmS73 C)
theorem zmE253 (x0 : zq) (x1 : Int32) (x2 : zq) : zpad (zPr.2.1 253).1 (zil [zrv x0, zI x1, zrv x2]) = [some (zrv x0), some (zI x1), some (zrv x2), none] := by
  simp only [zil_A, zil_I, zil_F, zil_D, zil_N]
  rfl
def zm183_64 (k7 : zq → Int32 → Int32 → zH → zRs Unit) (x0 : zq) (x1 : Int32) (x2 : Int32) (h : zH) : zRs Unit :=
  zlet (x2 + (1 : Int32)) fun x21 =>
  k7 x0 x1 x21 h
theorem zmS183_64 {k7 : zq → Int32 → Int32 → zH → zRs Unit} (hk7 : ∀ (x0 : zq) (x1 : Int32) (x2 : Int32) (h : zH) (r : Unit ⊕ Nat) (h' : zH), k7 x0 x1 x2 h = some (r, h') → zAt 183 7 [some (zrv x0), some (zI x1), some (zI x2), none] [] h (zoU r) h') : ∀ (x0 : zq) (x1 : Int32) (x2 : Int32) (h : zH) (r : Unit ⊕ Nat) (h' : zH), zm183_64 k7 x0 x1 x2 h = some (r, h') → zAt 183 64 [some (zrv x0), some (zI x1), some (zI x2), none] [] h (zoU r) h' := by
  intro x0 x1 x2 h r h' H
  unfold zm183_64 at H
  obtain ⟨x21, e22, H⟩ := zlet_e H
  refine zA_inc rfl rfl rfl (e22.trans (congrArg (_ + ·) zkk8)) (zset1 (L' := [some (zrv x0), some (zI x1), some (zI x21), none]) rfl rfl (zpcV rfl rfl)) ?_
  refine zA_go rfl rfl ?_
  exact zA_tr (L := [some (zrv x0), some (zI x1), some (zI x21), none]) rfl rfl (hk7 _ _ _ _ _ _ H)
def zm183_40 (k7 : zq → Int32 → Int32 → zH → zRs Unit) (x0 : zq) (x1 : Int32) (x2 : Int32) (x3 : Int32) (h : zH) : zRs Unit :=
  zob 12 x0 fun p21 i22 =>
  zai (zr h p21 i22 13) x3 h fun p25 i26 j27 =>
  if (zi h p25 i26 j27) = (-1 : Int32) then
    zm183_64 k7 x0 x1 x2 h
  else
    zai (zr h p21 i22 13) x3 h fun p33 i34 j35 =>
    zai (zr h p21 i22 9) (zi h p33 i34 j35) h fun p40 i41 j42 =>
    zai (zr h p21 i22 20) (((8 : Int32) * x1) + (zi h p40 i41 j42)) h fun p47 i48 j49 =>
    zar 1 (zr h p21 i22 20) (((8 : Int32) * x1) + (zi h p40 i41 j42)) h fun p54 i55 j56 =>
    zlet (zsi h p54 i55 j56 ((zi h p47 i48 j49) + (1 : Int32))) fun h61 =>
    zm183_64 k7 x0 x1 x2 h61
theorem zmS183_40 {k7 : zq → Int32 → Int32 → zH → zRs Unit} (hk7 : ∀ (x0 : zq) (x1 : Int32) (x2 : Int32) (h : zH) (r : Unit ⊕ Nat) (h' : zH), k7 x0 x1 x2 h = some (r, h') → zAt 183 7 [some (zrv x0), some (zI x1), some (zI x2), none] [] h (zoU r) h') : ∀ (x0 : zq) (x1 : Int32) (x2 : Int32) (x3 : Int32) (h : zH) (r : Unit ⊕ Nat) (h' : zH), zm183_40 k7 x0 x1 x2 x3 h = some (r, h') → zAt 183 40 [some (zrv x0), some (zI x1), some (zI x2), some (zI x3)] [] h (zoU r) h' := by
  intro x0 x1 x2 x3 h r h' H
  unfold zm183_40 at H
  refine zA_aldn rfl rfl rfl ?_
  obtain ⟨p21, i22, e23, c24, H⟩ := zob_e H
  refine zA_gf3 rfl rfl e23 c24 ?_
  refine zA_ldn rfl rfl rfl ?_
  obtain ⟨p25, i26, j27, e28, c29, c30, e31, H⟩ := zai_e H
  refine zA_ial rfl rfl e28 c29 c30 e31 ?_
  refine zA_push rfl rfl zkk6 ?_
  rcases zite_e H with ⟨c32, H⟩ | ⟨c32, H⟩
  · refine zA_brT (c := (zi h p25 i26 j27) = (-1 : Int32)) rfl rfl rfl c32 ?_
    exact zA_tr (L := [some (zrv x0), some (zI x1), some (zI x2), none]) rfl rfl (zmS183_64 hk7 _ _ _ _ _ _ H)
  · refine zA_brF (c := (zi h p25 i26 j27) = (-1 : Int32)) rfl rfl rfl c32 ?_
    refine zA_aldn rfl rfl rfl ?_
    refine zA_gf3 rfl rfl e23 c24 ?_
    refine zA_push rfl rfl zkk0 ?_
    refine zA_ldn rfl rfl rfl ?_
    refine zA_st (st' := [zI ((8 : Int32) * x1), zrv (zr h p21 i22 20)]) rfl rfl rfl rfl ?_
    refine zA_aldn rfl rfl rfl ?_
    refine zA_gf3 rfl rfl e23 c24 ?_
    refine zA_aldn rfl rfl rfl ?_
    refine zA_gf3 rfl rfl e23 c24 ?_
    refine zA_ldn rfl rfl rfl ?_
    obtain ⟨p33, i34, j35, e36, c37, c38, e39, H⟩ := zai_e H
    refine zA_ial rfl rfl e36 c37 c38 e39 ?_
    obtain ⟨p40, i41, j42, e43, c44, c45, e46, H⟩ := zai_e H
    refine zA_ial rfl rfl e43 c44 c45 e46 ?_
    refine zA_st (st' := [zI (((8 : Int32) * x1) + (zi h p40 i41 j42)), zrv (zr h p21 i22 20)]) rfl rfl rfl rfl ?_
    refine zA_dup2 rfl rfl rfl (zcat_rv _) ?_
    obtain ⟨p47, i48, j49, e50, c51, c52, e53, H⟩ := zai_e H
    refine zA_ial rfl rfl e50 c51 c52 e53 ?_
    refine zA_push rfl rfl zkk5 ?_
    refine zA_st (st' := [zI ((zi h p47 i48 j49) + (1 : Int32)), zI (((8 : Int32) * x1) + (zi h p40 i41 j42)), zrv (zr h p21 i22 20)]) rfl rfl rfl rfl ?_
    obtain ⟨p54, i55, j56, e57, c58, c59, e60, H⟩ := zar_e H
    obtain ⟨h61, e62, H⟩ := zlet_e H
    refine zA_ias rfl rfl e57 c58 c59 e60 e62 ?_
    exact zA_tr (L := [some (zrv x0), some (zI x1), some (zI x2), none]) rfl rfl (zmS183_64 hk7 _ _ _ _ _ _ H)
def zm183_7 (k66 : zq → Int32 → zH → zRs Unit) : Nat → zq → Int32 → Int32 → zH → zRs Unit
  | 0, _, _, _, _ => none
  | n + 1, x0, x1, x2, h =>
    if (3 : Int32) ≤ x2 then
      k66 x0 x1 h
    else
      zlet (((3 : Int32) * x1) + x2) fun x22 =>
      zob 12 x0 fun p24 i25 =>
      zai (zr h p24 i25 12) x22 h fun p28 i29 j30 =>
      if (zi h p28 i29 j30) = (-1 : Int32) then
        zm183_40 (zm183_7 k66 n) x0 x1 x2 x22 h
      else
        zai (zr h p24 i25 12) x22 h fun p36 i37 j38 =>
        zai (zr h p24 i25 9) (zi h p36 i37 j38) h fun p43 i44 j45 =>
        zai (zr h p24 i25 20) (((8 : Int32) * x1) + (zi h p43 i44 j45)) h fun p50 i51 j52 =>
        zar 1 (zr h p24 i25 20) (((8 : Int32) * x1) + (zi h p43 i44 j45)) h fun p57 i58 j59 =>
        zlet (zsi h p57 i58 j59 ((zi h p50 i51 j52) + (1 : Int32))) fun h64 =>
        zm183_40 (zm183_7 k66 n) x0 x1 x2 x22 h64
theorem zmS183_7 {k66 : zq → Int32 → zH → zRs Unit} (hk66 : ∀ (x0 : zq) (x1 : Int32) (h : zH) (r : Unit ⊕ Nat) (h' : zH), k66 x0 x1 h = some (r, h') → zAt 183 66 [some (zrv x0), some (zI x1), none, none] [] h (zoU r) h') : ∀ (n : Nat) (x0 : zq) (x1 : Int32) (x2 : Int32) (h : zH) (r : Unit ⊕ Nat) (h' : zH), zm183_7 k66 n x0 x1 x2 h = some (r, h') → zAt 183 7 [some (zrv x0), some (zI x1), some (zI x2), none] [] h (zoU r) h' := by
  intro n
  induction n with
  | zero => intro x0 x1 x2 h r h' H; cases H
  | succ n ih =>
    intro x0 x1 x2 h r h' H
    unfold zm183_7 at H
    refine zA_ldn rfl rfl rfl ?_
    refine zA_push rfl rfl zkk3 ?_
    rcases zite_e H with ⟨c21, H⟩ | ⟨c21, H⟩
    · refine zA_brT (c := (3 : Int32) ≤ x2) rfl rfl rfl c21 ?_
      exact zA_tr (L := [some (zrv x0), some (zI x1), none, none]) rfl rfl (hk66 _ _ _ _ _ H)
    · refine zA_brF (c := (3 : Int32) ≤ x2) rfl rfl rfl c21 ?_
      refine zA_push rfl rfl zkk3 ?_
      refine zA_ldn rfl rfl rfl ?_
      refine zA_st (st' := [zI ((3 : Int32) * x1)]) rfl rfl rfl rfl ?_
      refine zA_ldn rfl rfl rfl ?_
      refine zA_st (st' := [zI (((3 : Int32) * x1) + x2)]) rfl rfl rfl rfl ?_
      obtain ⟨x22, e23, H⟩ := zlet_e H
      refine zA_istn2 rfl rfl e23 (zset1 (L' := [some (zrv x0), some (zI x1), some (zI x2), some (zI x22)]) rfl rfl (zpcV rfl rfl)) ?_
      refine zA_aldn rfl rfl rfl ?_
      obtain ⟨p24, i25, e26, c27, H⟩ := zob_e H
      refine zA_gf3 rfl rfl e26 c27 ?_
      refine zA_ldn rfl rfl rfl ?_
      obtain ⟨p28, i29, j30, e31, c32, c33, e34, H⟩ := zai_e H
      refine zA_ial rfl rfl e31 c32 c33 e34 ?_
      refine zA_push rfl rfl zkk6 ?_
      rcases zite_e H with ⟨c35, H⟩ | ⟨c35, H⟩
      · refine zA_brT (c := (zi h p28 i29 j30) = (-1 : Int32)) rfl rfl rfl c35 ?_
        exact zA_tr (L := [some (zrv x0), some (zI x1), some (zI x2), some (zI x22)]) rfl rfl (zmS183_40 ih _ _ _ _ _ _ _ H)
      · refine zA_brF (c := (zi h p28 i29 j30) = (-1 : Int32)) rfl rfl rfl c35 ?_
        refine zA_aldn rfl rfl rfl ?_
        refine zA_gf3 rfl rfl e26 c27 ?_
        refine zA_push rfl rfl zkk0 ?_
        refine zA_ldn rfl rfl rfl ?_
        refine zA_st (st' := [zI ((8 : Int32) * x1), zrv (zr h p24 i25 20)]) rfl rfl rfl rfl ?_
        refine zA_aldn rfl rfl rfl ?_
        refine zA_gf3 rfl rfl e26 c27 ?_
        refine zA_aldn rfl rfl rfl ?_
        refine zA_gf3 rfl rfl e26 c27 ?_
        refine zA_ldn rfl rfl rfl ?_
        obtain ⟨p36, i37, j38, e39, c40, c41, e42, H⟩ := zai_e H
        refine zA_ial rfl rfl e39 c40 c41 e42 ?_
        obtain ⟨p43, i44, j45, e46, c47, c48, e49, H⟩ := zai_e H
        refine zA_ial rfl rfl e46 c47 c48 e49 ?_
        refine zA_st (st' := [zI (((8 : Int32) * x1) + (zi h p43 i44 j45)), zrv (zr h p24 i25 20)]) rfl rfl rfl rfl ?_
        refine zA_dup2 rfl rfl rfl (zcat_rv _) ?_
        obtain ⟨p50, i51, j52, e53, c54, c55, e56, H⟩ := zai_e H
        refine zA_ial rfl rfl e53 c54 c55 e56 ?_
        refine zA_push rfl rfl zkk5 ?_
        refine zA_st (st' := [zI ((zi h p50 i51 j52) + (1 : Int32)), zI (((8 : Int32) * x1) + (zi h p43 i44 j45)), zrv (zr h p24 i25 20)]) rfl rfl rfl rfl ?_
        obtain ⟨p57, i58, j59, e60, c61, c62, e63, H⟩ := zar_e H
        obtain ⟨h64, e65, H⟩ := zlet_e H
        refine zA_ias rfl rfl e60 c61 c62 e63 e65 ?_
        exact zA_tr (L := [some (zrv x0), some (zI x1), some (zI x2), some (zI x22)]) rfl rfl (zmS183_40 ih _ _ _ _ _ _ _ H)
def zm183_137 (k2 : zq → Int32 → zH → zRs Unit) (x0 : zq) (x1 : Int32) (h : zH) : zRs Unit :=
  zlet (x1 + (1 : Int32)) fun x21 =>
  k2 x0 x21 h
theorem zmS183_137 {k2 : zq → Int32 → zH → zRs Unit} (hk2 : ∀ (x0 : zq) (x1 : Int32) (h : zH) (r : Unit ⊕ Nat) (h' : zH), k2 x0 x1 h = some (r, h') → zAt 183 2 [some (zrv x0), some (zI x1), none, none] [] h (zoU r) h') : ∀ (x0 : zq) (x1 : Int32) (h : zH) (r : Unit ⊕ Nat) (h' : zH), zm183_137 k2 x0 x1 h = some (r, h') → zAt 183 137 [some (zrv x0), some (zI x1), none, none] [] h (zoU r) h' := by
  intro x0 x1 h r h' H
  unfold zm183_137 at H
  obtain ⟨x21, e22, H⟩ := zlet_e H
  refine zA_inc rfl rfl rfl (e22.trans (congrArg (_ + ·) zkk8)) (zset1 (L' := [some (zrv x0), some (zI x21), none, none]) rfl rfl (zpcV rfl (zcat_rv _))) ?_
  refine zA_go rfl rfl ?_
  exact zA_tr (L := [some (zrv x0), some (zI x21), none, none]) rfl rfl (hk2 _ _ _ _ _ H)
def zm183_98 (k2 : zq → Int32 → zH → zRs Unit) (x0 : zq) (x1 : Int32) (s0 : Int32) (h : zH) : zRs Unit :=
  zob 12 x0 fun p21 i22 =>
  zai (zr h p21 i22 22) x1 h fun p25 i26 j27 =>
  zai (zr h p21 i22 20) (((8 : Int32) * x1) + (zi h p25 i26 j27)) h fun p32 i33 j34 =>
  zar 1 (zr h p21 i22 20) (((8 : Int32) * x1) + (zi h p25 i26 j27)) h fun p39 i40 j41 =>
  zlet (zsi h p39 i40 j41 ((zi h p32 i33 j34) - s0)) fun h46 =>
  zai (zr h46 p21 i22 23) x1 h46 fun p48 i49 j50 =>
  zai (zr h46 p21 i22 20) (((8 : Int32) * x1) + (zi h46 p48 i49 j50)) h46 fun p55 i56 j57 =>
  zar 1 (zr h46 p21 i22 20) (((8 : Int32) * x1) + (zi h46 p48 i49 j50)) h46 fun p62 i63 j64 =>
  zlet (zsi h46 p62 i63 j64 ((zi h46 p55 i56 j57) + s0)) fun h69 =>
  zai (zr h69 p21 i22 24) x1 h69 fun p71 i72 j73 =>
  zar 1 (zr h69 p21 i22 24) x1 h69 fun p78 i79 j80 =>
  zlet (zsi h69 p78 i79 j80 ((zi h69 p71 i72 j73) + s0)) fun h85 =>
  zm183_137 k2 x0 x1 h85
theorem zmS183_98 {k2 : zq → Int32 → zH → zRs Unit} (hk2 : ∀ (x0 : zq) (x1 : Int32) (h : zH) (r : Unit ⊕ Nat) (h' : zH), k2 x0 x1 h = some (r, h') → zAt 183 2 [some (zrv x0), some (zI x1), none, none] [] h (zoU r) h') : ∀ (x0 : zq) (x1 : Int32) (s0 : Int32) (h : zH) (r : Unit ⊕ Nat) (h' : zH), zm183_98 k2 x0 x1 s0 h = some (r, h') → zAt 183 98 [some (zrv x0), some (zI x1), none, none] [zI s0] h (zoU r) h' := by
  intro x0 x1 s0 h r h' H
  unfold zm183_98 at H
  refine zA_istn2 rfl rfl rfl (zset1 (L' := [some (zrv x0), some (zI x1), some (zI s0), none]) rfl rfl (zpcV rfl rfl)) ?_
  refine zA_aldn rfl rfl rfl ?_
  obtain ⟨p21, i22, e23, c24, H⟩ := zob_e H
  refine zA_gf3 rfl rfl e23 c24 ?_
  refine zA_push rfl rfl zkk0 ?_
  refine zA_ldn rfl rfl rfl ?_
  refine zA_st (st' := [zI ((8 : Int32) * x1), zrv (zr h p21 i22 20)]) rfl rfl rfl rfl ?_
  refine zA_aldn rfl rfl rfl ?_
  refine zA_gf3 rfl rfl e23 c24 ?_
  refine zA_ldn rfl rfl rfl ?_
  obtain ⟨p25, i26, j27, e28, c29, c30, e31, H⟩ := zai_e H
  refine zA_ial rfl rfl e28 c29 c30 e31 ?_
  refine zA_st (st' := [zI (((8 : Int32) * x1) + (zi h p25 i26 j27)), zrv (zr h p21 i22 20)]) rfl rfl rfl rfl ?_
  refine zA_dup2 rfl rfl rfl (zcat_rv _) ?_
  obtain ⟨p32, i33, j34, e35, c36, c37, e38, H⟩ := zai_e H
  refine zA_ial rfl rfl e35 c36 c37 e38 ?_
  refine zA_ldn rfl rfl rfl ?_
  refine zA_st (st' := [zI ((zi h p32 i33 j34) - s0), zI (((8 : Int32) * x1) + (zi h p25 i26 j27)), zrv (zr h p21 i22 20)]) rfl rfl rfl rfl ?_
  obtain ⟨p39, i40, j41, e42, c43, c44, e45, H⟩ := zar_e H
  obtain ⟨h46, e47, H⟩ := zlet_e H
  refine zA_ias rfl rfl e42 c43 c44 e45 e47 ?_
  refine zA_aldn rfl rfl rfl ?_
  refine zA_gf3 rfl rfl e23 c24 ?_
  refine zA_push rfl rfl zkk0 ?_
  refine zA_ldn rfl rfl rfl ?_
  refine zA_st (st' := [zI ((8 : Int32) * x1), zrv (zr h46 p21 i22 20)]) rfl rfl rfl rfl ?_
  refine zA_aldn rfl rfl rfl ?_
  refine zA_gf3 rfl rfl e23 c24 ?_
  refine zA_ldn rfl rfl rfl ?_
  obtain ⟨p48, i49, j50, e51, c52, c53, e54, H⟩ := zai_e H
  refine zA_ial rfl rfl e51 c52 c53 e54 ?_
  refine zA_st (st' := [zI (((8 : Int32) * x1) + (zi h46 p48 i49 j50)), zrv (zr h46 p21 i22 20)]) rfl rfl rfl rfl ?_
  refine zA_dup2 rfl rfl rfl (zcat_rv _) ?_
  obtain ⟨p55, i56, j57, e58, c59, c60, e61, H⟩ := zai_e H
  refine zA_ial rfl rfl e58 c59 c60 e61 ?_
  refine zA_ldn rfl rfl rfl ?_
  refine zA_st (st' := [zI ((zi h46 p55 i56 j57) + s0), zI (((8 : Int32) * x1) + (zi h46 p48 i49 j50)), zrv (zr h46 p21 i22 20)]) rfl rfl rfl rfl ?_
  obtain ⟨p62, i63, j64, e65, c66, c67, e68, H⟩ := zar_e H
  obtain ⟨h69, e70, H⟩ := zlet_e H
  refine zA_ias rfl rfl e65 c66 c67 e68 e70 ?_
  refine zA_aldn rfl rfl rfl ?_
  refine zA_gf3 rfl rfl e23 c24 ?_
  refine zA_ldn rfl rfl rfl ?_
  refine zA_dup2 rfl rfl rfl (zcat_rv _) ?_
  obtain ⟨p71, i72, j73, e74, c75, c76, e77, H⟩ := zai_e H
  refine zA_ial rfl rfl e74 c75 c76 e77 ?_
  refine zA_ldn rfl rfl rfl ?_
  refine zA_st (st' := [zI ((zi h69 p71 i72 j73) + s0), zI x1, zrv (zr h69 p21 i22 24)]) rfl rfl rfl rfl ?_
  obtain ⟨p78, i79, j80, e81, c82, c83, e84, H⟩ := zar_e H
  obtain ⟨h85, e86, H⟩ := zlet_e H
  refine zA_ias rfl rfl e81 c82 c83 e84 e86 ?_
  exact zA_tr (L := [some (zrv x0), some (zI x1), none, none]) rfl rfl (zmS183_137 hk2 _ _ _ _ _ H)
def zm183_66 (k2 : zq → Int32 → zH → zRs Unit) (x0 : zq) (x1 : Int32) (h : zH) : zRs Unit :=
  zob 12 x0 fun p21 i22 =>
  zai (zr h p21 i22 23) x1 h fun p25 i26 j27 =>
  if (zi h p25 i26 j27) = (-1 : Int32) then
    zm183_137 k2 x0 x1 h
  else
    zai (zr h p21 i22 22) x1 h fun p33 i34 j35 =>
    zai (zr h p21 i22 20) (((8 : Int32) * x1) + (zi h p33 i34 j35)) h fun p40 i41 j42 =>
    if (5 : Int32) ≤ (zi h p40 i41 j42) then
      zm183_98 k2 x0 x1 (5 : Int32) h
    else
      zai (zr h p21 i22 22) x1 h fun p48 i49 j50 =>
      zai (zr h p21 i22 20) (((8 : Int32) * x1) + (zi h p48 i49 j50)) h fun p55 i56 j57 =>
      zm183_98 k2 x0 x1 (zi h p55 i56 j57) h
theorem zmS183_66 {k2 : zq → Int32 → zH → zRs Unit} (hk2 : ∀ (x0 : zq) (x1 : Int32) (h : zH) (r : Unit ⊕ Nat) (h' : zH), k2 x0 x1 h = some (r, h') → zAt 183 2 [some (zrv x0), some (zI x1), none, none] [] h (zoU r) h') : ∀ (x0 : zq) (x1 : Int32) (h : zH) (r : Unit ⊕ Nat) (h' : zH), zm183_66 k2 x0 x1 h = some (r, h') → zAt 183 66 [some (zrv x0), some (zI x1), none, none] [] h (zoU r) h' := by
  intro x0 x1 h r h' H
  unfold zm183_66 at H
  refine zA_aldn rfl rfl rfl ?_
  obtain ⟨p21, i22, e23, c24, H⟩ := zob_e H
  refine zA_gf3 rfl rfl e23 c24 ?_
  refine zA_ldn rfl rfl rfl ?_
  obtain ⟨p25, i26, j27, e28, c29, c30, e31, H⟩ := zai_e H
  refine zA_ial rfl rfl e28 c29 c30 e31 ?_
  refine zA_push rfl rfl zkk6 ?_
  rcases zite_e H with ⟨c32, H⟩ | ⟨c32, H⟩
  · refine zA_brT (c := (zi h p25 i26 j27) = (-1 : Int32)) rfl rfl rfl c32 ?_
    exact zA_tr (L := [some (zrv x0), some (zI x1), none, none]) rfl rfl (zmS183_137 hk2 _ _ _ _ _ H)
  · refine zA_brF (c := (zi h p25 i26 j27) = (-1 : Int32)) rfl rfl rfl c32 ?_
    refine zA_aldn rfl rfl rfl ?_
    refine zA_gf3 rfl rfl e23 c24 ?_
    refine zA_push rfl rfl zkk0 ?_
    refine zA_ldn rfl rfl rfl ?_
    refine zA_st (st' := [zI ((8 : Int32) * x1), zrv (zr h p21 i22 20)]) rfl rfl rfl rfl ?_
    refine zA_aldn rfl rfl rfl ?_
    refine zA_gf3 rfl rfl e23 c24 ?_
    refine zA_ldn rfl rfl rfl ?_
    obtain ⟨p33, i34, j35, e36, c37, c38, e39, H⟩ := zai_e H
    refine zA_ial rfl rfl e36 c37 c38 e39 ?_
    refine zA_st (st' := [zI (((8 : Int32) * x1) + (zi h p33 i34 j35)), zrv (zr h p21 i22 20)]) rfl rfl rfl rfl ?_
    obtain ⟨p40, i41, j42, e43, c44, c45, e46, H⟩ := zai_e H
    refine zA_ial rfl rfl e43 c44 c45 e46 ?_
    refine zA_push rfl rfl zkk20 ?_
    rcases zite_e H with ⟨c47, H⟩ | ⟨c47, H⟩
    · refine zA_brT (c := (5 : Int32) ≤ (zi h p40 i41 j42)) rfl rfl rfl c47 ?_
      refine zA_push rfl rfl zkk20 ?_
      exact zA_tr (L := [some (zrv x0), some (zI x1), none, none]) rfl rfl (zmS183_98 hk2 _ _ _ _ _ _ H)
    · refine zA_brF (c := (5 : Int32) ≤ (zi h p40 i41 j42)) rfl rfl rfl c47 ?_
      refine zA_aldn rfl rfl rfl ?_
      refine zA_gf3 rfl rfl e23 c24 ?_
      refine zA_push rfl rfl zkk0 ?_
      refine zA_ldn rfl rfl rfl ?_
      refine zA_st (st' := [zI ((8 : Int32) * x1), zrv (zr h p21 i22 20)]) rfl rfl rfl rfl ?_
      refine zA_aldn rfl rfl rfl ?_
      refine zA_gf3 rfl rfl e23 c24 ?_
      refine zA_ldn rfl rfl rfl ?_
      obtain ⟨p48, i49, j50, e51, c52, c53, e54, H⟩ := zai_e H
      refine zA_ial rfl rfl e51 c52 c53 e54 ?_
      refine zA_st (st' := [zI (((8 : Int32) * x1) + (zi h p48 i49 j50)), zrv (zr h p21 i22 20)]) rfl rfl rfl rfl ?_
      obtain ⟨p55, i56, j57, e58, c59, c60, e61, H⟩ := zai_e H
      refine zA_ial rfl rfl e58 c59 c60 e61 ?_
      refine zA_go rfl rfl ?_
      exact zA_tr (L := [some (zrv x0), some (zI x1), none, none]) rfl rfl (zmS183_98 hk2 _ _ _ _ _ _ H)
def zm183_2 : Nat → zq → Int32 → zH → zRs Unit
  | 0, _, _, _ => none
  | n + 1, x0, x1, h =>
    if (4 : Int32) ≤ x1 then
      some (.inl (), h)
    else
      zm183_7 (zm183_66 (zm183_2 n)) zN0 x0 x1 (0 : Int32) h
theorem zmS183_2 : ∀ (n : Nat) (x0 : zq) (x1 : Int32) (h : zH) (r : Unit ⊕ Nat) (h' : zH), zm183_2 n x0 x1 h = some (r, h') → zAt 183 2 [some (zrv x0), some (zI x1), none, none] [] h (zoU r) h' := by
  intro n
  induction n with
  | zero => intro x0 x1 h r h' H; cases H
  | succ n ih =>
    intro x0 x1 h r h' H
    unfold zm183_2 at H
    refine zA_ldn rfl rfl rfl ?_
    refine zA_push rfl rfl zkk9 ?_
    rcases zite_e H with ⟨c21, H⟩ | ⟨c21, H⟩
    · refine zA_brT (c := (4 : Int32) ≤ x1) rfl rfl rfl c21 ?_
      refine zA_tr (L := [none, none, none, none]) rfl rfl ?_
      cases H
      exact zA_ret rfl rfl
    · refine zA_brF (c := (4 : Int32) ≤ x1) rfl rfl rfl c21 ?_
      refine zA_push rfl rfl zkk7 ?_
      refine zA_istn2 rfl rfl rfl (zset1 (L' := [some (zrv x0), some (zI x1), some (zI (0 : Int32)), none]) rfl rfl (zpcV rfl rfl)) ?_
      exact zA_tr (L := [some (zrv x0), some (zI x1), some (zI (0 : Int32)), none]) rfl rfl (zmS183_7 (zmS183_66 ih) zN0 _ _ _ _ _ _ H)
-- 183: ReleaseHouseModel.data()V
def zm183 (x0 : zq) (h : zH) : zRs Unit :=
  zm183_2 zN0 x0 (0 : Int32) h
theorem zmS183 {x0 : zq} {h : zH} {r : Unit ⊕ Nat} {h' : zH} (H : zm183 x0 h = some (r, h')) : zAt 183 0 [some (zrv x0), none, none, none] [] h (zoU r) h' := by
  unfold zm183 at H
  refine zA_push rfl rfl zkk7 ?_
  refine zA_istn2 rfl rfl rfl (zset1 (L' := [some (zrv x0), some (zI (0 : Int32)), none, none]) rfl rfl (zpcV rfl (zcat_rv _))) ?_
  exact zA_tr (L := [some (zrv x0), some (zI (0 : Int32)), none, none]) rfl rfl (zmS183_2 zN0 _ _ _ _ _ H)
theorem zmE183 (x0 : zq) : zpad (zPr.2.1 183).1 (zil [zrv x0]) = [some (zrv x0), none, none, none] := by
  simp only [zil_A, zil_I, zil_F, zil_D, zil_N]
  rfl
def zm184_86 (k20 : zq → Int32 → Int32 → zH → zRs Unit) (x0 : zq) (x1 : Int32) (x2 : Int32) (h : zH) : zRs Unit :=
  zlet (x2 + (1 : Int32)) fun x21 =>
  k20 x0 x1 x21 h
theorem zmS184_86 {k20 : zq → Int32 → Int32 → zH → zRs Unit} (hk20 : ∀ (x0 : zq) (x1 : Int32) (x2 : Int32) (h : zH) (r : Unit ⊕ Nat) (h' : zH), k20 x0 x1 x2 h = some (r, h') → zAt 184 20 [some (zrv x0), some (zI x1), some (zI x2), none] [] h (zoU r) h') : ∀ (x0 : zq) (x1 : Int32) (x2 : Int32) (h : zH) (r : Unit ⊕ Nat) (h' : zH), zm184_86 k20 x0 x1 x2 h = some (r, h') → zAt 184 86 [some (zrv x0), some (zI x1), some (zI x2), none] [] h (zoU r) h' := by
  intro x0 x1 x2 h r h' H
  unfold zm184_86 at H
  obtain ⟨x21, e22, H⟩ := zlet_e H
  refine zA_inc rfl rfl rfl (e22.trans (congrArg (_ + ·) zkk8)) (zset1 (L' := [some (zrv x0), some (zI x1), some (zI x21), none]) rfl rfl (zpcV rfl rfl)) ?_
  refine zA_go rfl rfl ?_
  exact zA_tr (L := [some (zrv x0), some (zI x1), some (zI x21), none]) rfl rfl (hk20 _ _ _ _ _ _ H)
def zm184_84 (k20 : zq → Int32 → Int32 → zH → zRs Unit) (x0 : zq) (x1 : Int32) (x2 : Int32) (s0 : zq) (s1 : Int32) (s2 : Int32) (s3 : Int32) (h : zH) : zRs Unit :=
  zar 1 s0 s1 h fun p21 i22 j23 =>
  zlet (zsi h p21 i22 j23 (s2 + s3)) fun h28 =>
  zm184_86 k20 x0 x1 x2 h28
theorem zmS184_84 {k20 : zq → Int32 → Int32 → zH → zRs Unit} (hk20 : ∀ (x0 : zq) (x1 : Int32) (x2 : Int32) (h : zH) (r : Unit ⊕ Nat) (h' : zH), k20 x0 x1 x2 h = some (r, h') → zAt 184 20 [some (zrv x0), some (zI x1), some (zI x2), none] [] h (zoU r) h') : ∀ (x0 : zq) (x1 : Int32) (x2 : Int32) (s0 : zq) (s1 : Int32) (s2 : Int32) (s3 : Int32) (h : zH) (r : Unit ⊕ Nat) (h' : zH), zm184_84 k20 x0 x1 x2 s0 s1 s2 s3 h = some (r, h') → zAt 184 84 [some (zrv x0), some (zI x1), some (zI x2), none] [zI s3, zI s2, zI s1, zrv s0] h (zoU r) h' := by
  intro x0 x1 x2 s0 s1 s2 s3 h r h' H
  unfold zm184_84 at H
  refine zA_st (st' := [zI (s2 + s3), zI s1, zrv s0]) rfl rfl rfl rfl ?_
  obtain ⟨p21, i22, j23, e24, c25, c26, e27, H⟩ := zar_e H
  obtain ⟨h28, e29, H⟩ := zlet_e H
  refine zA_ias rfl rfl e24 c25 c26 e27 e29 ?_
  exact zA_tr (L := [some (zrv x0), some (zI x1), some (zI x2), none]) rfl rfl (zmS184_86 hk20 _ _ _ _ _ _ H)
def zm184_73 (k20 : zq → Int32 → Int32 → zH → zRs Unit) (x0 : zq) (x1 : Int32) (x2 : Int32) (x3 : Int32) (s0 : zq) (s1 : Int32) (s2 : Int32) (h : zH) : zRs Unit :=
  zar 2 s0 s1 h fun p21 i22 j23 =>
  zif (s2 = 0 ∨ s2 = 1) <|
  zlet (zsi h p21 i22 j23 s2) fun h28 =>
  zob 12 x0 fun p31 i32 =>
  zai (zr h28 p31 i32 60) x1 h28 fun p35 i36 j37 =>
  if x3 = 0 then
    zm184_84 k20 x0 x1 x2 (zr h28 p31 i32 60) x1 (zi h28 p35 i36 j37) (0 : Int32) h28
  else
    zm184_84 k20 x0 x1 x2 (zr h28 p31 i32 60) x1 (zi h28 p35 i36 j37) (1 : Int32) h28
theorem zmS184_73 {k20 : zq → Int32 → Int32 → zH → zRs Unit} (hk20 : ∀ (x0 : zq) (x1 : Int32) (x2 : Int32) (h : zH) (r : Unit ⊕ Nat) (h' : zH), k20 x0 x1 x2 h = some (r, h') → zAt 184 20 [some (zrv x0), some (zI x1), some (zI x2), none] [] h (zoU r) h') : ∀ (x0 : zq) (x1 : Int32) (x2 : Int32) (x3 : Int32) (s0 : zq) (s1 : Int32) (s2 : Int32) (h : zH) (r : Unit ⊕ Nat) (h' : zH), zm184_73 k20 x0 x1 x2 x3 s0 s1 s2 h = some (r, h') → zAt 184 73 [some (zrv x0), some (zI x1), some (zI x2), some (zI x3)] [zI s2, zI s1, zrv s0] h (zoU r) h' := by
  intro x0 x1 x2 x3 s0 s1 s2 h r h' H
  unfold zm184_73 at H
  obtain ⟨p21, i22, j23, e24, c25, c26, e27, H⟩ := zar_e H
  obtain ⟨c30, H⟩ := zif_e H
  obtain ⟨h28, e29, H⟩ := zlet_e H
  refine zA_bas rfl rfl e24 c25 c26 e27 c30 e29 ?_
  refine zA_aldn rfl rfl rfl ?_
  obtain ⟨p31, i32, e33, c34, H⟩ := zob_e H
  refine zA_gf3 rfl rfl e33 c34 ?_
  refine zA_ldn rfl rfl rfl ?_
  refine zA_dup2 rfl rfl rfl (zcat_rv _) ?_
  obtain ⟨p35, i36, j37, e38, c39, c40, e41, H⟩ := zai_e H
  refine zA_ial rfl rfl e38 c39 c40 e41 ?_
  refine zA_ldn rfl rfl rfl ?_
  rcases zite_e H with ⟨c42, H⟩ | ⟨c42, H⟩
  · refine zA_brT (c := x3 = 0) rfl rfl rfl c42 ?_
    refine zA_tr (L := [some (zrv x0), some (zI x1), some (zI x2), none]) rfl rfl ?_
    refine zA_push rfl rfl zkk7 ?_
    exact zA_tr (L := [some (zrv x0), some (zI x1), some (zI x2), none]) rfl rfl (zmS184_84 hk20 _ _ _ _ _ _ _ _ _ _ H)
  · refine zA_brF (c := x3 = 0) rfl rfl rfl c42 ?_
    refine zA_push rfl rfl zkk5 ?_
    refine zA_go rfl rfl ?_
    exact zA_tr (L := [some (zrv x0), some (zI x1), some (zI x2), none]) rfl rfl (zmS184_84 hk20 _ _ _ _ _ _ _ _ _ _ H)
def zm184_48 (k20 : zq → Int32 → Int32 → zH → zRs Unit) (x0 : zq) (x1 : Int32) (x2 : Int32) (s0 : Int32) (h : zH) : zRs Unit :=
  zob 12 x0 fun p21 i22 =>
  zai (zr h p21 i22 40) x2 h fun p25 i26 j27 =>
  if (zi h p25 i26 j27) = x1 then
    zar 1 (zr h p21 i22 40) x2 h fun p33 i34 j35 =>
    zlet (zsi h p33 i34 j35 (-1 : Int32)) fun h40 =>
    zar 2 (zr h40 p21 i22 37) x2 h40 fun p42 i43 j44 =>
    if (zi h40 p42 i43 j44) = 0 then
      if s0 = 0 then
        zm184_73 k20 x0 x1 x2 s0 (zr h40 p21 i22 37) x2 (0 : Int32) h40
      else
        zm184_73 k20 x0 x1 x2 s0 (zr h40 p21 i22 37) x2 (1 : Int32) h40
    else
      zm184_73 k20 x0 x1 x2 s0 (zr h40 p21 i22 37) x2 (1 : Int32) h40
  else
    zm184_86 k20 x0 x1 x2 h
theorem zmS184_48 {k20 : zq → Int32 → Int32 → zH → zRs Unit} (hk20 : ∀ (x0 : zq) (x1 : Int32) (x2 : Int32) (h : zH) (r : Unit ⊕ Nat) (h' : zH), k20 x0 x1 x2 h = some (r, h') → zAt 184 20 [some (zrv x0), some (zI x1), some (zI x2), none] [] h (zoU r) h') : ∀ (x0 : zq) (x1 : Int32) (x2 : Int32) (s0 : Int32) (h : zH) (r : Unit ⊕ Nat) (h' : zH), zm184_48 k20 x0 x1 x2 s0 h = some (r, h') → zAt 184 48 [some (zrv x0), some (zI x1), some (zI x2), none] [zI s0] h (zoU r) h' := by
  intro x0 x1 x2 s0 h r h' H
  unfold zm184_48 at H
  refine zA_istn2 rfl rfl rfl (zset1 (L' := [some (zrv x0), some (zI x1), some (zI x2), some (zI s0)]) rfl rfl (zpcV rfl rfl)) ?_
  refine zA_aldn rfl rfl rfl ?_
  obtain ⟨p21, i22, e23, c24, H⟩ := zob_e H
  refine zA_gf3 rfl rfl e23 c24 ?_
  refine zA_ldn rfl rfl rfl ?_
  obtain ⟨p25, i26, j27, e28, c29, c30, e31, H⟩ := zai_e H
  refine zA_ial rfl rfl e28 c29 c30 e31 ?_
  refine zA_ldn rfl rfl rfl ?_
  rcases zite_e H with ⟨c32, H⟩ | ⟨c32, H⟩
  · refine zA_brF' (c := (zi h p25 i26 j27) = x1) rfl rfl rfl c32 ?_
    refine zA_aldn rfl rfl rfl ?_
    refine zA_gf3 rfl rfl e23 c24 ?_
    refine zA_ldn rfl rfl rfl ?_
    refine zA_push rfl rfl zkk6 ?_
    obtain ⟨p33, i34, j35, e36, c37, c38, e39, H⟩ := zar_e H
    obtain ⟨h40, e41, H⟩ := zlet_e H
    refine zA_ias rfl rfl e36 c37 c38 e39 e41 ?_
    refine zA_aldn rfl rfl rfl ?_
    refine zA_gf3 rfl rfl e23 c24 ?_
    refine zA_ldn rfl rfl rfl ?_
    refine zA_aldn rfl rfl rfl ?_
    refine zA_gf3 rfl rfl e23 c24 ?_
    refine zA_ldn rfl rfl rfl ?_
    obtain ⟨p42, i43, j44, e45, c46, c47, e48, H⟩ := zar_e H
    refine zA_bal rfl rfl e45 c46 c47 e48 ?_
    rcases zite_e H with ⟨c49, H⟩ | ⟨c49, H⟩
    · refine zA_brF' (c := (zi h40 p42 i43 j44) = 0) rfl rfl rfl c49 ?_
      refine zA_ldn rfl rfl rfl ?_
      rcases zite_e H with ⟨c50, H⟩ | ⟨c50, H⟩
      · refine zA_brT (c := s0 = 0) rfl rfl rfl c50 ?_
        refine zA_push rfl rfl zkk7 ?_
        exact zA_tr (L := [some (zrv x0), some (zI x1), some (zI x2), some (zI s0)]) rfl rfl (zmS184_73 hk20 _ _ _ _ _ _ _ _ _ _ H)
      · refine zA_brF (c := s0 = 0) rfl rfl rfl c50 ?_
        refine zA_push rfl rfl zkk5 ?_
        refine zA_go rfl rfl ?_
        exact zA_tr (L := [some (zrv x0), some (zI x1), some (zI x2), some (zI s0)]) rfl rfl (zmS184_73 hk20 _ _ _ _ _ _ _ _ _ _ H)
    · refine zA_brT' (c := (zi h40 p42 i43 j44) = 0) rfl rfl rfl c49 ?_
      refine zA_push rfl rfl zkk5 ?_
      refine zA_go rfl rfl ?_
      exact zA_tr (L := [some (zrv x0), some (zI x1), some (zI x2), some (zI s0)]) rfl rfl (zmS184_73 hk20 _ _ _ _ _ _ _ _ _ _ H)
  · refine zA_brT' (c := (zi h p25 i26 j27) = x1) rfl rfl rfl c32 ?_
    exact zA_tr (L := [some (zrv x0), some (zI x1), some (zI x2), none]) rfl rfl (zmS184_86 hk20 _ _ _ _ _ _ H)
def zm184_20 (k88 : zq → Int32 → zH → zRs Unit) : Nat → zq → Int32 → Int32 → zH → zRs Unit
  | 0, _, _, _, _ => none
  | n + 1, x0, x1, x2, h =>
    zob 12 x0 fun p21 i22 =>
    if (zi h p21 i22 30) ≤ x2 then
      k88 x0 x1 h
    else
      zai (zr h p21 i22 33) x2 h fun p26 i27 j28 =>
      if (zi h p26 i27 j28) = 0 then
        zai (zr h p21 i22 32) x2 h fun p34 i35 j36 =>
        zai (zr h p21 i22 34) x2 h fun p41 i42 j43 =>
        zai (zr h p21 i22 27) (((10 : Int32) * (zi h p34 i35 j36)) + (zi h p41 i42 j43)) h fun p48 i49 j50 =>
        if (zi h p48 i49 j50) = (5 : Int32) then
          zm184_48 (zm184_20 k88 n) x0 x1 x2 (1 : Int32) h
        else
          zm184_48 (zm184_20 k88 n) x0 x1 x2 (0 : Int32) h
      else
        zm184_48 (zm184_20 k88 n) x0 x1 x2 (0 : Int32) h
theorem zmS184_20 {k88 : zq → Int32 → zH → zRs Unit} (hk88 : ∀ (x0 : zq) (x1 : Int32) (h : zH) (r : Unit ⊕ Nat) (h' : zH), k88 x0 x1 h = some (r, h') → zAt 184 88 [some (zrv x0), some (zI x1), none, none] [] h (zoU r) h') : ∀ (n : Nat) (x0 : zq) (x1 : Int32) (x2 : Int32) (h : zH) (r : Unit ⊕ Nat) (h' : zH), zm184_20 k88 n x0 x1 x2 h = some (r, h') → zAt 184 20 [some (zrv x0), some (zI x1), some (zI x2), none] [] h (zoU r) h' := by
  intro n
  induction n with
  | zero => intro x0 x1 x2 h r h' H; cases H
  | succ n ih =>
    intro x0 x1 x2 h r h' H
    unfold zm184_20 at H
    refine zA_ldn rfl rfl rfl ?_
    refine zA_aldn rfl rfl rfl ?_
    obtain ⟨p21, i22, e23, c24, H⟩ := zob_e H
    refine zA_gf0 rfl rfl (Or.inl rfl) e23 c24 ?_
    rcases zite_e H with ⟨c25, H⟩ | ⟨c25, H⟩
    · refine zA_brT (c := (zi h p21 i22 30) ≤ x2) rfl rfl rfl c25 ?_
      exact zA_tr (L := [some (zrv x0), some (zI x1), none, none]) rfl rfl (hk88 _ _ _ _ _ H)
    · refine zA_brF (c := (zi h p21 i22 30) ≤ x2) rfl rfl rfl c25 ?_
      refine zA_aldn rfl rfl rfl ?_
      refine zA_gf3 rfl rfl e23 c24 ?_
      refine zA_ldn rfl rfl rfl ?_
      obtain ⟨p26, i27, j28, e29, c30, c31, e32, H⟩ := zai_e H
      refine zA_ial rfl rfl e29 c30 c31 e32 ?_
      rcases zite_e H with ⟨c33, H⟩ | ⟨c33, H⟩
      · refine zA_brF' (c := (zi h p26 i27 j28) = 0) rfl rfl rfl c33 ?_
        refine zA_aldn rfl rfl rfl ?_
        refine zA_gf3 rfl rfl e23 c24 ?_
        refine zA_push rfl rfl zkk27 ?_
        refine zA_aldn rfl rfl rfl ?_
        refine zA_gf3 rfl rfl e23 c24 ?_
        refine zA_ldn rfl rfl rfl ?_
        obtain ⟨p34, i35, j36, e37, c38, c39, e40, H⟩ := zai_e H
        refine zA_ial rfl rfl e37 c38 c39 e40 ?_
        refine zA_st (st' := [zI ((10 : Int32) * (zi h p34 i35 j36)), zrv (zr h p21 i22 27)]) rfl rfl rfl rfl ?_
        refine zA_aldn rfl rfl rfl ?_
        refine zA_gf3 rfl rfl e23 c24 ?_
        refine zA_ldn rfl rfl rfl ?_
        obtain ⟨p41, i42, j43, e44, c45, c46, e47, H⟩ := zai_e H
        refine zA_ial rfl rfl e44 c45 c46 e47 ?_
        refine zA_st (st' := [zI (((10 : Int32) * (zi h p34 i35 j36)) + (zi h p41 i42 j43)), zrv (zr h p21 i22 27)]) rfl rfl rfl rfl ?_
        obtain ⟨p48, i49, j50, e51, c52, c53, e54, H⟩ := zai_e H
        refine zA_ial rfl rfl e51 c52 c53 e54 ?_
        refine zA_push rfl rfl zkk20 ?_
        rcases zite_e H with ⟨c55, H⟩ | ⟨c55, H⟩
        · refine zA_brF' (c := (zi h p48 i49 j50) = (5 : Int32)) rfl rfl rfl c55 ?_
          refine zA_push rfl rfl zkk5 ?_
          refine zA_go rfl rfl ?_
          exact zA_tr (L := [some (zrv x0), some (zI x1), some (zI x2), none]) rfl rfl (zmS184_48 ih _ _ _ _ _ _ _ H)
        · refine zA_brT' (c := (zi h p48 i49 j50) = (5 : Int32)) rfl rfl rfl c55 ?_
          refine zA_push rfl rfl zkk7 ?_
          exact zA_tr (L := [some (zrv x0), some (zI x1), some (zI x2), none]) rfl rfl (zmS184_48 ih _ _ _ _ _ _ _ H)
      · refine zA_brT' (c := (zi h p26 i27 j28) = 0) rfl rfl rfl c33 ?_
        refine zA_push rfl rfl zkk7 ?_
        exact zA_tr (L := [some (zrv x0), some (zI x1), some (zI x2), none]) rfl rfl (zmS184_48 ih _ _ _ _ _ _ _ H)
def zm184_88 (k2 : zq → Int32 → zH → zRs Unit) (x0 : zq) (x1 : Int32) (h : zH) : zRs Unit :=
  zlet (x1 + (1 : Int32)) fun x21 =>
  k2 x0 x21 h
theorem zmS184_88 {k2 : zq → Int32 → zH → zRs Unit} (hk2 : ∀ (x0 : zq) (x1 : Int32) (h : zH) (r : Unit ⊕ Nat) (h' : zH), k2 x0 x1 h = some (r, h') → zAt 184 2 [some (zrv x0), some (zI x1), none, none] [] h (zoU r) h') : ∀ (x0 : zq) (x1 : Int32) (h : zH) (r : Unit ⊕ Nat) (h' : zH), zm184_88 k2 x0 x1 h = some (r, h') → zAt 184 88 [some (zrv x0), some (zI x1), none, none] [] h (zoU r) h' := by
  intro x0 x1 h r h' H
  unfold zm184_88 at H
  obtain ⟨x21, e22, H⟩ := zlet_e H
  refine zA_inc rfl rfl rfl (e22.trans (congrArg (_ + ·) zkk8)) (zset1 (L' := [some (zrv x0), some (zI x21), none, none]) rfl rfl (zpcV rfl (zcat_rv _))) ?_
  refine zA_go rfl rfl ?_
  exact zA_tr (L := [some (zrv x0), some (zI x21), none, none]) rfl rfl (hk2 _ _ _ _ _ H)
def zm184_2 : Nat → zq → Int32 → zH → zRs Unit
  | 0, _, _, _ => none
  | n + 1, x0, x1, h =>
    zob 12 x0 fun p21 i22 =>
    if (zi h p21 i22 58) ≤ x1 then
      some (.inl (), h)
    else
      zai (zr h p21 i22 59) x1 h fun p26 i27 j28 =>
      if (zi h p26 i27 j28) = (zi h p21 i22 1) then
        zar 1 (zr h p21 i22 60) x1 h fun p34 i35 j36 =>
        zlet (zsi h p34 i35 j36 (0 : Int32)) fun h41 =>
        zm184_20 (zm184_88 (zm184_2 n)) zN0 x0 x1 (0 : Int32) h41
      else
        zm184_88 (zm184_2 n) x0 x1 h
theorem zmS184_2 : ∀ (n : Nat) (x0 : zq) (x1 : Int32) (h : zH) (r : Unit ⊕ Nat) (h' : zH), zm184_2 n x0 x1 h = some (r, h') → zAt 184 2 [some (zrv x0), some (zI x1), none, none] [] h (zoU r) h' := by
  intro n
  induction n with
  | zero => intro x0 x1 h r h' H; cases H
  | succ n ih =>
    intro x0 x1 h r h' H
    unfold zm184_2 at H
    refine zA_ldn rfl rfl rfl ?_
    refine zA_aldn rfl rfl rfl ?_
    obtain ⟨p21, i22, e23, c24, H⟩ := zob_e H
    refine zA_gf0 rfl rfl (Or.inl rfl) e23 c24 ?_
    rcases zite_e H with ⟨c25, H⟩ | ⟨c25, H⟩
    · refine zA_brT (c := (zi h p21 i22 58) ≤ x1) rfl rfl rfl c25 ?_
      refine zA_tr (L := [none, none, none, none]) rfl rfl ?_
      cases H
      exact zA_ret rfl rfl
    · refine zA_brF (c := (zi h p21 i22 58) ≤ x1) rfl rfl rfl c25 ?_
      refine zA_aldn rfl rfl rfl ?_
      refine zA_gf3 rfl rfl e23 c24 ?_
      refine zA_ldn rfl rfl rfl ?_
      obtain ⟨p26, i27, j28, e29, c30, c31, e32, H⟩ := zai_e H
      refine zA_ial rfl rfl e29 c30 c31 e32 ?_
      refine zA_aldn rfl rfl rfl ?_
      refine zA_gf0 rfl rfl (Or.inl rfl) e23 c24 ?_
      rcases zite_e H with ⟨c33, H⟩ | ⟨c33, H⟩
      · refine zA_brF' (c := (zi h p26 i27 j28) = (zi h p21 i22 1)) rfl rfl rfl c33 ?_
        refine zA_aldn rfl rfl rfl ?_
        refine zA_gf3 rfl rfl e23 c24 ?_
        refine zA_ldn rfl rfl rfl ?_
        refine zA_push rfl rfl zkk7 ?_
        obtain ⟨p34, i35, j36, e37, c38, c39, e40, H⟩ := zar_e H
        obtain ⟨h41, e42, H⟩ := zlet_e H
        refine zA_ias rfl rfl e37 c38 c39 e40 e42 ?_
        refine zA_push rfl rfl zkk7 ?_
        refine zA_istn2 rfl rfl rfl (zset1 (L' := [some (zrv x0), some (zI x1), some (zI (0 : Int32)), none]) rfl rfl (zpcV rfl rfl)) ?_
        exact zA_tr (L := [some (zrv x0), some (zI x1), some (zI (0 : Int32)), none]) rfl rfl (zmS184_20 (zmS184_88 ih) zN0 _ _ _ _ _ _ H)
      · refine zA_brT' (c := (zi h p26 i27 j28) = (zi h p21 i22 1)) rfl rfl rfl c33 ?_
        exact zA_tr (L := [some (zrv x0), some (zI x1), none, none]) rfl rfl (zmS184_88 ih _ _ _ _ _ H)
-- 184: ReleaseHouseModel.leaves()V
def zm184 (x0 : zq) (h : zH) : zRs Unit :=
  zm184_2 zN0 x0 (0 : Int32) h
theorem zmS184 {x0 : zq} {h : zH} {r : Unit ⊕ Nat} {h' : zH} (H : zm184 x0 h = some (r, h')) : zAt 184 0 [some (zrv x0), none, none, none] [] h (zoU r) h' := by
  unfold zm184 at H
  refine zA_push rfl rfl zkk7 ?_
  refine zA_istn2 rfl rfl rfl (zset1 (L' := [some (zrv x0), some (zI (0 : Int32)), none, none]) rfl rfl (zpcV rfl (zcat_rv _))) ?_
  exact zA_tr (L := [some (zrv x0), some (zI (0 : Int32)), none, none]) rfl rfl (zmS184_2 zN0 _ _ _ _ _ H)
theorem zmE184 (x0 : zq) : zpad (zPr.2.1 184).1 (zil [zrv x0]) = [some (zrv x0), none, none, none] := by
  simp only [zil_A, zil_I, zil_F, zil_D, zil_N]
  rfl
-- 179: ReleaseHouseModel.skips(I)V
def zm179 (x0 : zq) (x1 : Int32) (h : zH) : zRs Unit :=
  zob 12 x0 fun p21 i22 =>
  zai (zr h p21 i22 31) x1 h fun p25 i26 j27 =>
  zb (zm175 x0 (zi h p25 i26 j27) h) fun _ h32 =>
  zb (zm176 x0 x1 (4 : Int32) h32) fun _ h33 =>
  some (.inl (), h33)
theorem zmS179 {x0 : zq} {x1 : Int32} {h : zH} {r : Unit ⊕ Nat} {h' : zH} (H : zm179 x0 x1 h = some (r, h')) : zAt 179 0 [some (zrv x0), some (zI x1)] [] h (zoU r) h' := by
  unfold zm179 at H
  refine zA_aldn rfl rfl rfl ?_
  refine zA_aldn rfl rfl rfl ?_
  obtain ⟨p21, i22, e23, c24, H⟩ := zob_e H
  refine zA_gf3 rfl rfl e23 c24 ?_
  refine zA_ldn rfl rfl rfl ?_
  obtain ⟨p25, i26, j27, e28, c29, c30, e31, H⟩ := zai_e H
  refine zA_ial rfl rfl e28 c29 c30 e31 ?_
  rcases zb_e H with ⟨u35, h32, C, H⟩ | ⟨E, h32, C, H⟩
  · refine zA_callU (as := [zrv x0, zI (zi h p25 i26 j27)]) (st' := []) rfl rfl rfl (zrcv_Q e23 c24) rfl (zmE175 _ _) rfl (zmS175 C) ?_
    refine zA_aldn rfl rfl rfl ?_
    refine zA_ldn rfl rfl rfl ?_
    refine zA_push rfl rfl zkk9 ?_
    rcases zb_e H with ⟨u34, h33, C, H⟩ | ⟨E, h33, C, H⟩
    · refine zA_callU (as := [zrv x0, zI x1, zI (4 : Int32)]) (st' := []) rfl rfl rfl (zrcv_Q e23 c24) rfl (zmE176 _ _ _) rfl (zmS176 C) ?_
      cases H
      exact zA_ret rfl rfl
    · cases H
      exact zA_callX (as := [zrv x0, zI x1, zI (4 : Int32)]) (st' := []) rfl rfl (zrcv_Q e23 c24) rfl (zmE176 _ _ _) rfl rfl rfl (zmS176 C)
  · cases H
    exact zA_callX (as := [zrv x0, zI (zi h p25 i26 j27)]) (st' := []) rfl rfl (zrcv_Q e23 c24) rfl (zmE175 _ _) rfl rfl rfl (zmS175 C)
theorem zmE179 (x0 : zq) (x1 : Int32) : zpad (zPr.2.1 179).1 (zil [zrv x0, zI x1]) = [some (zrv x0), some (zI x1)] := by
  simp only [zil_A, zil_I, zil_F, zil_D, zil_N]
  rfl
def zm180_106 (s0 : zq) (s1 : Int32) (s2 : Int32) (h : zH) : zRs Int32 :=
  zar 1 s0 s1 h fun p21 i22 j23 =>
  zlet (zsi h p21 i22 j23 s2) fun h28 =>
  some (.inl (0 : Int32), h28)
theorem zmS180_106 : ∀ (s0 : zq) (s1 : Int32) (s2 : Int32) (h : zH) (r : Int32 ⊕ Nat) (h' : zH), zm180_106 s0 s1 s2 h = some (r, h') → zAt 180 106 [none, none, none, none, none, none, none, none, none] [zI s2, zI s1, zrv s0] h (zoI r) h' := by
  intro s0 s1 s2 h r h' H
  unfold zm180_106 at H
  obtain ⟨p21, i22, j23, e24, c25, c26, e27, H⟩ := zar_e H
  obtain ⟨h28, e29, H⟩ := zlet_e H
  refine zA_ias rfl rfl e24 c25 c26 e27 e29 ?_
  refine zA_push rfl rfl zkk7 ?_
  cases H
  exact zA_ret rfl (zret_Z (by decide))
def zm180_97 (x0 : zq) (x3 : Int32) (x4 : Int32) (x6 : Int32) (s0 : zq) (s1 : Int32) (s2 : Int32) (h : zH) : zRs Int32 :=
  zar 1 s0 s1 h fun p21 i22 j23 =>
  zlet (zsi h p21 i22 j23 s2) fun h28 =>
  zob 12 x0 fun p30 i31 =>
  if x3 = 0 then
    zm180_106 (zr h28 p30 i31 14) x6 (0 : Int32) h28
  else
    zm180_106 (zr h28 p30 i31 14) x6 x4 h28
theorem zmS180_97 : ∀ (x0 : zq) (x3 : Int32) (x4 : Int32) (x6 : Int32) (s0 : zq) (s1 : Int32) (s2 : Int32) (h : zH) (r : Int32 ⊕ Nat) (h' : zH), zm180_97 x0 x3 x4 x6 s0 s1 s2 h = some (r, h') → zAt 180 97 [some (zrv x0), none, none, some (zI x3), some (zI x4), none, some (zI x6), none, none] [zI s2, zI s1, zrv s0] h (zoI r) h' := by
  intro x0 x3 x4 x6 s0 s1 s2 h r h' H
  unfold zm180_97 at H
  obtain ⟨p21, i22, j23, e24, c25, c26, e27, H⟩ := zar_e H
  obtain ⟨h28, e29, H⟩ := zlet_e H
  refine zA_ias rfl rfl e24 c25 c26 e27 e29 ?_
  refine zA_aldn rfl rfl rfl ?_
  obtain ⟨p30, i31, e32, c33, H⟩ := zob_e H
  refine zA_gf3 rfl rfl e32 c33 ?_
  refine zA_ld rfl rfl rfl ?_
  refine zA_ldn rfl rfl rfl ?_
  rcases zite_e H with ⟨c34, H⟩ | ⟨c34, H⟩
  · refine zA_brT (c := x3 = 0) rfl rfl rfl c34 ?_
    refine zA_tr (L := [none, none, none, none, none, none, none, none, none]) rfl rfl ?_
    refine zA_push rfl rfl zkk7 ?_
    exact zA_tr (L := [none, none, none, none, none, none, none, none, none]) rfl rfl (zmS180_106 _ _ _ _ _ _ H)
  · refine zA_brF (c := x3 = 0) rfl rfl rfl c34 ?_
    refine zA_ld rfl rfl rfl ?_
    refine zA_go rfl rfl ?_
    exact zA_tr (L := [none, none, none, none, none, none, none, none, none]) rfl rfl (zmS180_106 _ _ _ _ _ _ H)
def zm180_89 (x0 : zq) (x3 : Int32) (x4 : Int32) (x5 : Int32) (x6 : Int32) (h : zH) : zRs Int32 :=
  zob 12 x0 fun p21 i22 =>
  if x3 = 0 then
    zm180_97 x0 x3 x4 x6 (zr h p21 i22 13) x6 (-1 : Int32) h
  else
    zm180_97 x0 x3 x4 x6 (zr h p21 i22 13) x6 x5 h
theorem zmS180_89 : ∀ (x0 : zq) (x3 : Int32) (x4 : Int32) (x5 : Int32) (x6 : Int32) (h : zH) (r : Int32 ⊕ Nat) (h' : zH), zm180_89 x0 x3 x4 x5 x6 h = some (r, h') → zAt 180 89 [some (zrv x0), none, none, some (zI x3), some (zI x4), some (zI x5), some (zI x6), none, none] [] h (zoI r) h' := by
  intro x0 x3 x4 x5 x6 h r h' H
  unfold zm180_89 at H
  refine zA_aldn rfl rfl rfl ?_
  obtain ⟨p21, i22, e23, c24, H⟩ := zob_e H
  refine zA_gf3 rfl rfl e23 c24 ?_
  refine zA_ld rfl rfl rfl ?_
  refine zA_ldn rfl rfl rfl ?_
  rcases zite_e H with ⟨c25, H⟩ | ⟨c25, H⟩
  · refine zA_brT (c := x3 = 0) rfl rfl rfl c25 ?_
    refine zA_tr (L := [some (zrv x0), none, none, some (zI x3), some (zI x4), none, some (zI x6), none, none]) rfl rfl ?_
    refine zA_push rfl rfl zkk6 ?_
    exact zA_tr (L := [some (zrv x0), none, none, some (zI x3), some (zI x4), none, some (zI x6), none, none]) rfl rfl (zmS180_97 _ _ _ _ _ _ _ _ _ _ H)
  · refine zA_brF (c := x3 = 0) rfl rfl rfl c25 ?_
    refine zA_ld rfl rfl rfl ?_
    refine zA_go rfl rfl ?_
    exact zA_tr (L := [some (zrv x0), none, none, some (zI x3), some (zI x4), none, some (zI x6), none, none]) rfl rfl (zmS180_97 _ _ _ _ _ _ _ _ _ _ H)
def zm180_61 (x0 : zq) (x1 : Int32) (x2 : Int32) (x3 : Int32) (x4 : Int32) (x5 : Int32) (x6 : Int32) (h : zH) : zRs Int32 :=
  if x3 = 0 then
    zob 12 x0 fun p22 i23 =>
    zar 2 (zr h p22 i23 41) (((3 : Int32) * x1) + x2) h fun p26 i27 j28 =>
    zlet (zsi h p26 i27 j28 (1 : Int32)) fun h33 =>
    zai (zr h33 p22 i23 12) x6 h33 fun p35 i36 j37 =>
    zar 1 (zr h33 p22 i23 42) (((3 : Int32) * x1) + x2) h33 fun p42 i43 j44 =>
    zlet (zsi h33 p42 i43 j44 (zi h33 p35 i36 j37)) fun h49 =>
    zar 1 (zr h49 p22 i23 12) x6 h49 fun p51 i52 j53 =>
    zlet (zsi h49 p51 i52 j53 x5) fun h58 =>
    zm180_89 x0 x3 x4 x5 x6 h58
  else
    zm180_89 x0 x3 x4 x5 x6 h
theorem zmS180_61 : ∀ (x0 : zq) (x1 : Int32) (x2 : Int32) (x3 : Int32) (x4 : Int32) (x5 : Int32) (x6 : Int32) (h : zH) (r : Int32 ⊕ Nat) (h' : zH), zm180_61 x0 x1 x2 x3 x4 x5 x6 h = some (r, h') → zAt 180 61 [some (zrv x0), some (zI x1), some (zI x2), some (zI x3), some (zI x4), some (zI x5), some (zI x6), none, none] [] h (zoI r) h' := by
  intro x0 x1 x2 x3 x4 x5 x6 h r h' H
  unfold zm180_61 at H
  refine zA_ldn rfl rfl rfl ?_
  rcases zite_e H with ⟨c21, H⟩ | ⟨c21, H⟩
  · refine zA_brF' (c := x3 = 0) rfl rfl rfl c21 ?_
    refine zA_aldn rfl rfl rfl ?_
    obtain ⟨p22, i23, e24, c25, H⟩ := zob_e H
    refine zA_gf3 rfl rfl e24 c25 ?_
    refine zA_push rfl rfl zkk3 ?_
    refine zA_ldn rfl rfl rfl ?_
    refine zA_st (st' := [zI ((3 : Int32) * x1), zrv (zr h p22 i23 41)]) rfl rfl rfl rfl ?_
    refine zA_ldn rfl rfl rfl ?_
    refine zA_st (st' := [zI (((3 : Int32) * x1) + x2), zrv (zr h p22 i23 41)]) rfl rfl rfl rfl ?_
    refine zA_push rfl rfl zkk5 ?_
    obtain ⟨p26, i27, j28, e29, c30, c31, e32, H⟩ := zar_e H
    obtain ⟨h33, e34, H⟩ := zlet_e H
    refine zA_bas rfl rfl e29 c30 c31 e32 (by decide) e34 ?_
    refine zA_aldn rfl rfl rfl ?_
    refine zA_gf3 rfl rfl e24 c25 ?_
    refine zA_push rfl rfl zkk3 ?_
    refine zA_ldn rfl rfl rfl ?_
    refine zA_st (st' := [zI ((3 : Int32) * x1), zrv (zr h33 p22 i23 42)]) rfl rfl rfl rfl ?_
    refine zA_ldn rfl rfl rfl ?_
    refine zA_st (st' := [zI (((3 : Int32) * x1) + x2), zrv (zr h33 p22 i23 42)]) rfl rfl rfl rfl ?_
    refine zA_aldn rfl rfl rfl ?_
    refine zA_gf3 rfl rfl e24 c25 ?_
    refine zA_ld rfl rfl rfl ?_
    obtain ⟨p35, i36, j37, e38, c39, c40, e41, H⟩ := zai_e H
    refine zA_ial rfl rfl e38 c39 c40 e41 ?_
    obtain ⟨p42, i43, j44, e45, c46, c47, e48, H⟩ := zar_e H
    obtain ⟨h49, e50, H⟩ := zlet_e H
    refine zA_ias rfl rfl e45 c46 c47 e48 e50 ?_
    refine zA_aldn rfl rfl rfl ?_
    refine zA_gf3 rfl rfl e24 c25 ?_
    refine zA_ld rfl rfl rfl ?_
    refine zA_ld rfl rfl rfl ?_
    obtain ⟨p51, i52, j53, e54, c55, c56, e57, H⟩ := zar_e H
    obtain ⟨h58, e59, H⟩ := zlet_e H
    refine zA_ias rfl rfl e54 c55 c56 e57 e59 ?_
    exact zA_tr (L := [some (zrv x0), none, none, some (zI x3), some (zI x4), some (zI x5), some (zI x6), none, none]) rfl rfl (zmS180_89 _ _ _ _ _ _ _ _ H)
  · refine zA_brT' (c := x3 = 0) rfl rfl rfl c21 ?_
    exact zA_tr (L := [some (zrv x0), none, none, some (zI x3), some (zI x4), some (zI x5), some (zI x6), none, none]) rfl rfl (zmS180_89 _ _ _ _ _ _ _ _ H)
def zm180_49 (x0 : zq) (x1 : Int32) (x2 : Int32) (x3 : Int32) (x4 : Int32) (x5 : Int32) (x6 : Int32) (x7 : Int32) (s0 : Int32) (h : zH) : zRs Int32 :=
  if s0 = (-1 : Int32) then
    zm180_61 x0 x1 x2 x3 x4 x5 x6 h
  else
    zob 12 x0 fun p22 i23 =>
    zar 1 (zr h p22 i23 33) s0 h fun p26 i27 j28 =>
    zlet (zsi h p26 i27 j28 (1 : Int32)) fun h33 =>
    zb (zm175 x0 x7 h33) fun _ h35 =>
    zm180_61 x0 x1 x2 x3 x4 x5 x6 h35
theorem zmS180_49 : ∀ (x0 : zq) (x1 : Int32) (x2 : Int32) (x3 : Int32) (x4 : Int32) (x5 : Int32) (x6 : Int32) (x7 : Int32) (s0 : Int32) (h : zH) (r : Int32 ⊕ Nat) (h' : zH), zm180_49 x0 x1 x2 x3 x4 x5 x6 x7 s0 h = some (r, h') → zAt 180 49 [some (zrv x0), some (zI x1), some (zI x2), some (zI x3), some (zI x4), some (zI x5), some (zI x6), some (zI x7), none] [zI s0] h (zoI r) h' := by
  intro x0 x1 x2 x3 x4 x5 x6 x7 s0 h r h' H
  unfold zm180_49 at H
  refine zA_ist2 rfl rfl rfl (zset1 (L' := [some (zrv x0), some (zI x1), some (zI x2), some (zI x3), some (zI x4), some (zI x5), some (zI x6), some (zI x7), some (zI s0)]) rfl rfl (zpcV rfl rfl)) ?_
  refine zA_ld rfl rfl rfl ?_
  refine zA_push rfl rfl zkk6 ?_
  rcases zite_e H with ⟨c21, H⟩ | ⟨c21, H⟩
  · refine zA_brT (c := s0 = (-1 : Int32)) rfl rfl rfl c21 ?_
    exact zA_tr (L := [some (zrv x0), some (zI x1), some (zI x2), some (zI x3), some (zI x4), some (zI x5), some (zI x6), none, none]) rfl rfl (zmS180_61 _ _ _ _ _ _ _ _ _ _ H)
  · refine zA_brF (c := s0 = (-1 : Int32)) rfl rfl rfl c21 ?_
    refine zA_aldn rfl rfl rfl ?_
    obtain ⟨p22, i23, e24, c25, H⟩ := zob_e H
    refine zA_gf3 rfl rfl e24 c25 ?_
    refine zA_ld rfl rfl rfl ?_
    refine zA_push rfl rfl zkk5 ?_
    obtain ⟨p26, i27, j28, e29, c30, c31, e32, H⟩ := zar_e H
    obtain ⟨h33, e34, H⟩ := zlet_e H
    refine zA_ias rfl rfl e29 c30 c31 e32 e34 ?_
    refine zA_aldn rfl rfl rfl ?_
    refine zA_ld rfl rfl rfl ?_
    rcases zb_e H with ⟨u36, h35, C, H⟩ | ⟨E, h35, C, H⟩
    · refine zA_callU (as := [zrv x0, zI x7]) (st' := []) rfl rfl rfl (zrcv_Q e24 c25) rfl (zmE175 _ _) rfl (zmS175 C) ?_
      exact zA_tr (L := [some (zrv x0), some (zI x1), some (zI x2), some (zI x3), some (zI x4), some (zI x5), some (zI x6), none, none]) rfl rfl (zmS180_61 _ _ _ _ _ _ _ _ _ _ H)
    · cases H
      exact zA_callX (as := [zrv x0, zI x7]) (st' := []) rfl rfl (zrcv_Q e24 c25) rfl (zmE175 _ _) rfl rfl rfl (zmS175 C)
-- 180: ReleaseHouseModel.moves(IIZI)Z
def zm180 (x0 : zq) (x1 : Int32) (x2 : Int32) (x3 : Int32) (x4 : Int32) (h : zH) : zRs Int32 :=
  zob 12 x0 fun p21 i22 =>
  zai (zr h p21 i22 31) x1 h fun p25 i26 j27 =>
  zlet (zi h p25 i26 j27) fun x32 =>
  zai (zr h p21 i22 3) x32 h fun p34 i35 j36 =>
  zlet (((3 : Int32) * (zi h p34 i35 j36)) + x2) fun x41 =>
  zai (zr h p21 i22 12) x41 h fun p43 i44 j45 =>
  if (zi h p43 i44 j45) = x32 then
    some (.inl (0 : Int32), h)
  else
    zai (zr h p21 i22 12) x41 h fun p51 i52 j53 =>
    if (zi h p51 i52 j53) ≤ x32 then
      zai (zr h p21 i22 13) x41 h fun p59 i60 j61 =>
      zlet (zi h p59 i60 j61) fun x66 =>
      if x66 = (-1 : Int32) then
        zm180_49 x0 x1 x2 x3 x4 x32 x41 x66 (-1 : Int32) h
      else
        if x66 = x32 then
          zm180_49 x0 x1 x2 x3 x4 x32 x41 x66 (-1 : Int32) h
        else
          zb (zm157 x0 x66 h) fun x71 h70 =>
          zm180_49 x0 x1 x2 x3 x4 x32 x41 x66 x71 h70
    else
      zb (zm179 x0 x1 h) fun _ h72 =>
      some (.inl (1 : Int32), h72)
theorem zmS180 {x0 : zq} {x1 : Int32} {x2 : Int32} {x3 : Int32} {x4 : Int32} {h : zH} {r : Int32 ⊕ Nat} {h' : zH} (H : zm180 x0 x1 x2 x3 x4 h = some (r, h')) : zAt 180 0 [some (zrv x0), some (zI x1), some (zI x2), some (zI x3), some (zI x4), none, none, none, none] [] h (zoI r) h' := by
  unfold zm180 at H
  refine zA_aldn rfl rfl rfl ?_
  obtain ⟨p21, i22, e23, c24, H⟩ := zob_e H
  refine zA_gf3 rfl rfl e23 c24 ?_
  refine zA_ldn rfl rfl rfl ?_
  obtain ⟨p25, i26, j27, e28, c29, c30, e31, H⟩ := zai_e H
  refine zA_ial rfl rfl e28 c29 c30 e31 ?_
  obtain ⟨x32, e33, H⟩ := zlet_e H
  refine zA_ist2 rfl rfl e33 (zset1 (L' := [some (zrv x0), some (zI x1), some (zI x2), some (zI x3), some (zI x4), some (zI x32), none, none, none]) rfl rfl (zpcV rfl rfl)) ?_
  refine zA_push rfl rfl zkk3 ?_
  refine zA_aldn rfl rfl rfl ?_
  refine zA_gf3 rfl rfl e23 c24 ?_
  refine zA_ld rfl rfl rfl ?_
  obtain ⟨p34, i35, j36, e37, c38, c39, e40, H⟩ := zai_e H
  refine zA_ial rfl rfl e37 c38 c39 e40 ?_
  refine zA_st (st' := [zI ((3 : Int32) * (zi h p34 i35 j36))]) rfl rfl rfl rfl ?_
  refine zA_ldn rfl rfl rfl ?_
  refine zA_st (st' := [zI (((3 : Int32) * (zi h p34 i35 j36)) + x2)]) rfl rfl rfl rfl ?_
  obtain ⟨x41, e42, H⟩ := zlet_e H
  refine zA_ist2 rfl rfl e42 (zset1 (L' := [some (zrv x0), some (zI x1), some (zI x2), some (zI x3), some (zI x4), some (zI x32), some (zI x41), none, none]) rfl rfl (zpcV rfl rfl)) ?_
  refine zA_aldn rfl rfl rfl ?_
  refine zA_gf3 rfl rfl e23 c24 ?_
  refine zA_ld rfl rfl rfl ?_
  obtain ⟨p43, i44, j45, e46, c47, c48, e49, H⟩ := zai_e H
  refine zA_ial rfl rfl e46 c47 c48 e49 ?_
  refine zA_ld rfl rfl rfl ?_
  rcases zite_e H with ⟨c50, H⟩ | ⟨c50, H⟩
  · refine zA_brF' (c := (zi h p43 i44 j45) = x32) rfl rfl rfl c50 ?_
    refine zA_push rfl rfl zkk7 ?_
    cases H
    exact zA_ret rfl (zret_Z (by decide))
  · refine zA_brT' (c := (zi h p43 i44 j45) = x32) rfl rfl rfl c50 ?_
    refine zA_aldn rfl rfl rfl ?_
    refine zA_gf3 rfl rfl e23 c24 ?_
    refine zA_ld rfl rfl rfl ?_
    obtain ⟨p51, i52, j53, e54, c55, c56, e57, H⟩ := zai_e H
    refine zA_ial rfl rfl e54 c55 c56 e57 ?_
    refine zA_ld rfl rfl rfl ?_
    rcases zite_e H with ⟨c58, H⟩ | ⟨c58, H⟩
    · refine zA_brT (c := (zi h p51 i52 j53) ≤ x32) rfl rfl rfl c58 ?_
      refine zA_aldn rfl rfl rfl ?_
      refine zA_gf3 rfl rfl e23 c24 ?_
      refine zA_ld rfl rfl rfl ?_
      obtain ⟨p59, i60, j61, e62, c63, c64, e65, H⟩ := zai_e H
      refine zA_ial rfl rfl e62 c63 c64 e65 ?_
      obtain ⟨x66, e67, H⟩ := zlet_e H
      refine zA_ist2 rfl rfl e67 (zset1 (L' := [some (zrv x0), some (zI x1), some (zI x2), some (zI x3), some (zI x4), some (zI x32), some (zI x41), some (zI x66), none]) rfl rfl (zpcV rfl rfl)) ?_
      refine zA_ld rfl rfl rfl ?_
      refine zA_push rfl rfl zkk6 ?_
      rcases zite_e H with ⟨c68, H⟩ | ⟨c68, H⟩
      · refine zA_brT (c := x66 = (-1 : Int32)) rfl rfl rfl c68 ?_
        refine zA_push rfl rfl zkk6 ?_
        refine zA_go rfl rfl ?_
        exact zA_tr (L := [some (zrv x0), some (zI x1), some (zI x2), some (zI x3), some (zI x4), some (zI x32), some (zI x41), some (zI x66), none]) rfl rfl (zmS180_49 _ _ _ _ _ _ _ _ _ _ _ _ H)
      · refine zA_brF (c := x66 = (-1 : Int32)) rfl rfl rfl c68 ?_
        refine zA_ld rfl rfl rfl ?_
        refine zA_ld rfl rfl rfl ?_
        rcases zite_e H with ⟨c69, H⟩ | ⟨c69, H⟩
        · refine zA_brF' (c := x66 = x32) rfl rfl rfl c69 ?_
          refine zA_push rfl rfl zkk6 ?_
          refine zA_go rfl rfl ?_
          exact zA_tr (L := [some (zrv x0), some (zI x1), some (zI x2), some (zI x3), some (zI x4), some (zI x32), some (zI x41), some (zI x66), none]) rfl rfl (zmS180_49 _ _ _ _ _ _ _ _ _ _ _ _ H)
        · refine zA_brT' (c := x66 = x32) rfl rfl rfl c69 ?_
          refine zA_aldn rfl rfl rfl ?_
          refine zA_ld rfl rfl rfl ?_
          rcases zb_e H with ⟨x71, h70, C, H⟩ | ⟨E, h70, C, H⟩
          · refine zA_callV (as := [zrv x0, zI x66]) (st' := []) rfl rfl rfl (zrcv_Q e23 c24) rfl (zmE157 _ _) rfl (zmS157 C) ?_
            exact zA_tr (L := [some (zrv x0), some (zI x1), some (zI x2), some (zI x3), some (zI x4), some (zI x32), some (zI x41), some (zI x66), none]) rfl rfl (zmS180_49 _ _ _ _ _ _ _ _ _ _ _ _ H)
          · cases H
            exact zA_callX (as := [zrv x0, zI x66]) (st' := []) rfl rfl (zrcv_Q e23 c24) rfl (zmE157 _ _) rfl rfl rfl (zmS157 C)
    · refine zA_brF (c := (zi h p51 i52 j53) ≤ x32) rfl rfl rfl c58 ?_
      refine zA_aldn rfl rfl rfl ?_
      refine zA_ldn rfl rfl rfl ?_
      rcases zb_e H with ⟨u73, h72, C, H⟩ | ⟨E, h72, C, H⟩
      · refine zA_callU (as := [zrv x0, zI x1]) (st' := []) rfl rfl rfl (zrcv_Q e23 c24) rfl (zmE179 _ _) rfl (zmS179 C) ?_
        refine zA_push rfl rfl zkk5 ?_
        cases H
        exact zA_ret rfl (zret_Z (by decide))
      · cases H
        exact zA_callX (as := [zrv x0, zI x1]) (st' := []) rfl rfl (zrcv_Q e23 c24) rfl (zmE179 _ _) rfl rfl rfl (zmS179 C)
theorem zmE180 (x0 : zq) (x1 : Int32) (x2 : Int32) (x3 : Int32) (x4 : Int32) : zpad (zPr.2.1 180).1 (zil [zrv x0, zI x1, zI x2, zI x3, zI x4]) = [some (zrv x0), some (zI x1), some (zI x2), some (zI x3), some (zI x4), none, none, none, none] := by
  simp only [zil_A, zil_I, zil_F, zil_D, zil_N]
  rfl
def zm181_42 (x0 : zq) (x3 : Int32) (s0 : zq) (s1 : Int32) (s2 : Int32) (s3 : Int32) (h : zH) : zRs Int32 :=
  zob 12 x0 fun p21 i22 =>
  zai (zr h p21 i22 29) x3 h fun p25 i26 j27 =>
  zob 12 s0 fun p32 i33 =>
  zb (zm180 s0 s1 s2 s3 (zi h p25 i26 j27) h) fun x37 h36 =>
  zif (x37 = 0 ∨ x37 = 1) <|
  some (.inl x37, h36)
theorem zmS181_42 : ∀ (x0 : zq) (x3 : Int32) (s0 : zq) (s1 : Int32) (s2 : Int32) (s3 : Int32) (h : zH) (r : Int32 ⊕ Nat) (h' : zH), zm181_42 x0 x3 s0 s1 s2 s3 h = some (r, h') → zAt 181 42 [some (zrv x0), none, none, some (zI x3)] [zI s3, zI s2, zI s1, zrv s0] h (zoI r) h' := by
  intro x0 x3 s0 s1 s2 s3 h r h' H
  unfold zm181_42 at H
  refine zA_aldn rfl rfl rfl ?_
  obtain ⟨p21, i22, e23, c24, H⟩ := zob_e H
  refine zA_gf3 rfl rfl e23 c24 ?_
  refine zA_ldn rfl rfl rfl ?_
  obtain ⟨p25, i26, j27, e28, c29, c30, e31, H⟩ := zai_e H
  refine zA_ial rfl rfl e28 c29 c30 e31 ?_
  obtain ⟨p32, i33, e34, c35, H⟩ := zob_e H
  rcases zb_e H with ⟨x37, h36, C, H⟩ | ⟨E, h36, C, H⟩
  · refine zA_callV (as := [zrv s0, zI s1, zI s2, zI s3, zI (zi h p25 i26 j27)]) (st' := []) rfl rfl rfl (zrcv_Q e34 c35) rfl (zmE180 _ _ _ _ _) rfl (zmS180 C) ?_
    obtain ⟨c38, H⟩ := zif_e H
    cases H
    exact zA_ret rfl (zret_Z c38)
  · cases H
    exact zA_callX (as := [zrv s0, zI s1, zI s2, zI s3, zI (zi h p25 i26 j27)]) (st' := []) rfl rfl (zrcv_Q e34 c35) rfl (zmE180 _ _ _ _ _) rfl rfl rfl (zmS180 C)
def zm181_28 (x0 : zq) (x1 : Int32) (x3 : Int32) (h : zH) : zRs Int32 :=
  zob 12 x0 fun p21 i22 =>
  zai (zr h p21 i22 28) x3 h fun p25 i26 j27 =>
  zai (zr h p21 i22 27) x3 h fun p32 i33 j34 =>
  if (zi h p32 i33 j34) = 0 then
    zm181_42 x0 x3 x0 x1 (zi h p25 i26 j27) (1 : Int32) h
  else
    zm181_42 x0 x3 x0 x1 (zi h p25 i26 j27) (0 : Int32) h
theorem zmS181_28 : ∀ (x0 : zq) (x1 : Int32) (x3 : Int32) (h : zH) (r : Int32 ⊕ Nat) (h' : zH), zm181_28 x0 x1 x3 h = some (r, h') → zAt 181 28 [some (zrv x0), some (zI x1), none, some (zI x3)] [] h (zoI r) h' := by
  intro x0 x1 x3 h r h' H
  unfold zm181_28 at H
  refine zA_aldn rfl rfl rfl ?_
  refine zA_ldn rfl rfl rfl ?_
  refine zA_aldn rfl rfl rfl ?_
  obtain ⟨p21, i22, e23, c24, H⟩ := zob_e H
  refine zA_gf3 rfl rfl e23 c24 ?_
  refine zA_ldn rfl rfl rfl ?_
  obtain ⟨p25, i26, j27, e28, c29, c30, e31, H⟩ := zai_e H
  refine zA_ial rfl rfl e28 c29 c30 e31 ?_
  refine zA_aldn rfl rfl rfl ?_
  refine zA_gf3 rfl rfl e23 c24 ?_
  refine zA_ldn rfl rfl rfl ?_
  obtain ⟨p32, i33, j34, e35, c36, c37, e38, H⟩ := zai_e H
  refine zA_ial rfl rfl e35 c36 c37 e38 ?_
  rcases zite_e H with ⟨c39, H⟩ | ⟨c39, H⟩
  · refine zA_brF' (c := (zi h p32 i33 j34) = 0) rfl rfl rfl c39 ?_
    refine zA_push rfl rfl zkk5 ?_
    refine zA_go rfl rfl ?_
    exact zA_tr (L := [some (zrv x0), none, none, some (zI x3)]) rfl rfl (zmS181_42 _ _ _ _ _ _ _ _ _ H)
  · refine zA_brT' (c := (zi h p32 i33 j34) = 0) rfl rfl rfl c39 ?_
    refine zA_tr (L := [some (zrv x0), none, none, some (zI x3)]) rfl rfl ?_
    refine zA_push rfl rfl zkk7 ?_
    exact zA_tr (L := [some (zrv x0), none, none, some (zI x3)]) rfl rfl (zmS181_42 _ _ _ _ _ _ _ _ _ H)
-- 181: ReleaseHouseModel.does(I)Z
def zm181 (x0 : zq) (x1 : Int32) (h : zH) : zRs Int32 :=
  zob 12 x0 fun p21 i22 =>
  zai (zr h p21 i22 31) x1 h fun p25 i26 j27 =>
  zlet (zi h p25 i26 j27) fun x32 =>
  zai (zr h p21 i22 32) x1 h fun p34 i35 j36 =>
  zai (zr h p21 i22 34) x1 h fun p41 i42 j43 =>
  zlet (((10 : Int32) * (zi h p34 i35 j36)) + (zi h p41 i42 j43)) fun x48 =>
  zai (zr h p21 i22 27) x48 h fun p50 i51 j52 =>
  if (zi h p50 i51 j52) = 0 then
    zm181_28 x0 x1 x48 h
  else
    zai (zr h p21 i22 27) x48 h fun p58 i59 j60 =>
    if (zi h p58 i59 j60) = (4 : Int32) then
      zm181_28 x0 x1 x48 h
    else
      zai (zr h p21 i22 27) x48 h fun p66 i67 j68 =>
      if (zi h p66 i67 j68) = (2 : Int32) then
        zai (zr h p21 i22 3) x32 h fun p74 i75 j76 =>
        zai (zr h p21 i22 28) x48 h fun p81 i82 j83 =>
        zb (zm214 x0 (((3 : Int32) * (zi h p74 i75 j76)) + (zi h p81 i82 j83)) h) fun x89 h88 =>
        if x89 = (2 : Int32) then
          zb (zm178 x0 x1 h88) fun x92 h91 =>
          some (.inl (1 : Int32), h91)
        else
          some (.inl (0 : Int32), h88)
      else
        some (.inl (0 : Int32), h)
theorem zmS181 {x0 : zq} {x1 : Int32} {h : zH} {r : Int32 ⊕ Nat} {h' : zH} (H : zm181 x0 x1 h = some (r, h')) : zAt 181 0 [some (zrv x0), some (zI x1), none, none] [] h (zoI r) h' := by
  unfold zm181 at H
  refine zA_aldn rfl rfl rfl ?_
  obtain ⟨p21, i22, e23, c24, H⟩ := zob_e H
  refine zA_gf3 rfl rfl e23 c24 ?_
  refine zA_ldn rfl rfl rfl ?_
  obtain ⟨p25, i26, j27, e28, c29, c30, e31, H⟩ := zai_e H
  refine zA_ial rfl rfl e28 c29 c30 e31 ?_
  obtain ⟨x32, e33, H⟩ := zlet_e H
  refine zA_istn2 rfl rfl e33 (zset1 (L' := [some (zrv x0), some (zI x1), some (zI x32), none]) rfl rfl (zpcV rfl rfl)) ?_
  refine zA_push rfl rfl zkk27 ?_
  refine zA_aldn rfl rfl rfl ?_
  refine zA_gf3 rfl rfl e23 c24 ?_
  refine zA_ldn rfl rfl rfl ?_
  obtain ⟨p34, i35, j36, e37, c38, c39, e40, H⟩ := zai_e H
  refine zA_ial rfl rfl e37 c38 c39 e40 ?_
  refine zA_st (st' := [zI ((10 : Int32) * (zi h p34 i35 j36))]) rfl rfl rfl rfl ?_
  refine zA_aldn rfl rfl rfl ?_
  refine zA_gf3 rfl rfl e23 c24 ?_
  refine zA_ldn rfl rfl rfl ?_
  obtain ⟨p41, i42, j43, e44, c45, c46, e47, H⟩ := zai_e H
  refine zA_ial rfl rfl e44 c45 c46 e47 ?_
  refine zA_st (st' := [zI (((10 : Int32) * (zi h p34 i35 j36)) + (zi h p41 i42 j43))]) rfl rfl rfl rfl ?_
  obtain ⟨x48, e49, H⟩ := zlet_e H
  refine zA_istn2 rfl rfl e49 (zset1 (L' := [some (zrv x0), some (zI x1), some (zI x32), some (zI x48)]) rfl rfl (zpcV rfl rfl)) ?_
  refine zA_aldn rfl rfl rfl ?_
  refine zA_gf3 rfl rfl e23 c24 ?_
  refine zA_ldn rfl rfl rfl ?_
  obtain ⟨p50, i51, j52, e53, c54, c55, e56, H⟩ := zai_e H
  refine zA_ial rfl rfl e53 c54 c55 e56 ?_
  rcases zite_e H with ⟨c57, H⟩ | ⟨c57, H⟩
  · refine zA_brT (c := (zi h p50 i51 j52) = 0) rfl rfl rfl c57 ?_
    exact zA_tr (L := [some (zrv x0), some (zI x1), none, some (zI x48)]) rfl rfl (zmS181_28 _ _ _ _ _ _ H)
  · refine zA_brF (c := (zi h p50 i51 j52) = 0) rfl rfl rfl c57 ?_
    refine zA_aldn rfl rfl rfl ?_
    refine zA_gf3 rfl rfl e23 c24 ?_
    refine zA_ldn rfl rfl rfl ?_
    obtain ⟨p58, i59, j60, e61, c62, c63, e64, H⟩ := zai_e H
    refine zA_ial rfl rfl e61 c62 c63 e64 ?_
    refine zA_push rfl rfl zkk9 ?_
    rcases zite_e H with ⟨c65, H⟩ | ⟨c65, H⟩
    · refine zA_brF' (c := (zi h p58 i59 j60) = (4 : Int32)) rfl rfl rfl c65 ?_
      exact zA_tr (L := [some (zrv x0), some (zI x1), none, some (zI x48)]) rfl rfl (zmS181_28 _ _ _ _ _ _ H)
    · refine zA_brT' (c := (zi h p58 i59 j60) = (4 : Int32)) rfl rfl rfl c65 ?_
      refine zA_aldn rfl rfl rfl ?_
      refine zA_gf3 rfl rfl e23 c24 ?_
      refine zA_ldn rfl rfl rfl ?_
      obtain ⟨p66, i67, j68, e69, c70, c71, e72, H⟩ := zai_e H
      refine zA_ial rfl rfl e69 c70 c71 e72 ?_
      refine zA_push rfl rfl zkk23 ?_
      rcases zite_e H with ⟨c73, H⟩ | ⟨c73, H⟩
      · refine zA_brF' (c := (zi h p66 i67 j68) = (2 : Int32)) rfl rfl rfl c73 ?_
        refine zA_aldn rfl rfl rfl ?_
        refine zA_push rfl rfl zkk3 ?_
        refine zA_aldn rfl rfl rfl ?_
        refine zA_gf3 rfl rfl e23 c24 ?_
        refine zA_ldn rfl rfl rfl ?_
        obtain ⟨p74, i75, j76, e77, c78, c79, e80, H⟩ := zai_e H
        refine zA_ial rfl rfl e77 c78 c79 e80 ?_
        refine zA_st (st' := [zI ((3 : Int32) * (zi h p74 i75 j76)), zrv x0]) rfl rfl rfl rfl ?_
        refine zA_aldn rfl rfl rfl ?_
        refine zA_gf3 rfl rfl e23 c24 ?_
        refine zA_ldn rfl rfl rfl ?_
        obtain ⟨p81, i82, j83, e84, c85, c86, e87, H⟩ := zai_e H
        refine zA_ial rfl rfl e84 c85 c86 e87 ?_
        refine zA_st (st' := [zI (((3 : Int32) * (zi h p74 i75 j76)) + (zi h p81 i82 j83)), zrv x0]) rfl rfl rfl rfl ?_
        rcases zb_e H with ⟨x89, h88, C, H⟩ | ⟨E, h88, C, H⟩
        · refine zA_callV (as := [zrv x0, zI (((3 : Int32) * (zi h p74 i75 j76)) + (zi h p81 i82 j83))]) (st' := []) rfl rfl rfl (zrcv_Q e23 c24) rfl (zmE214 _ _) rfl (zmS214 C) ?_
          refine zA_push rfl rfl zkk23 ?_
          rcases zite_e H with ⟨c90, H⟩ | ⟨c90, H⟩
          · refine zA_brF' (c := x89 = (2 : Int32)) rfl rfl rfl c90 ?_
            refine zA_aldn rfl rfl rfl ?_
            refine zA_ldn rfl rfl rfl ?_
            rcases zb_e H with ⟨x92, h91, C, H⟩ | ⟨E, h91, C, H⟩
            · refine zA_callV (as := [zrv x0, zI x1]) (st' := []) rfl rfl rfl (zrcv_Q e23 c24) rfl (zmE178 _ _) rfl (zmS178 C) ?_
              refine zA_pop rfl rfl rfl ?_
              refine zA_push rfl rfl zkk5 ?_
              cases H
              exact zA_ret rfl (zret_Z (by decide))
            · cases H
              exact zA_callX (as := [zrv x0, zI x1]) (st' := []) rfl rfl (zrcv_Q e23 c24) rfl (zmE178 _ _) rfl rfl rfl (zmS178 C)
          · refine zA_brT' (c := x89 = (2 : Int32)) rfl rfl rfl c90 ?_
            refine zA_tr (L := [none, none, none, none]) rfl rfl ?_
            refine zA_push rfl rfl zkk7 ?_
            cases H
            exact zA_ret rfl (zret_Z (by decide))
        · cases H
          exact zA_callX (as := [zrv x0, zI (((3 : Int32) * (zi h p74 i75 j76)) + (zi h p81 i82 j83))]) (st' := []) rfl rfl (zrcv_Q e23 c24) rfl (zmE214 _ _) rfl rfl rfl (zmS214 C)
      · refine zA_brT' (c := (zi h p66 i67 j68) = (2 : Int32)) rfl rfl rfl c73 ?_
        refine zA_tr (L := [none, none, none, none]) rfl rfl ?_
        refine zA_push rfl rfl zkk7 ?_
        cases H
        exact zA_ret rfl (zret_Z (by decide))
theorem zmE181 (x0 : zq) (x1 : Int32) : zpad (zPr.2.1 181).1 (zil [zrv x0, zI x1]) = [some (zrv x0), some (zI x1), none, none] := by
  simp only [zil_A, zil_I, zil_F, zil_D, zil_N]
  rfl
