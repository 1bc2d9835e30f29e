set_option maxRecDepth 16384
/-! The methods read back (printed by wip/whole/gen/dec.py). -/
def zm169_73 (x0 : zq) (x1 : Int32) (x2 : Int32) (x3 : Int32) (x4 : Int32) (x5 : Int32) (h : zH) : zRs Int32 :=
  zob 12 x0 fun p21 i22 =>
  zb (zm168 x0 x1 x2 x3 x4 h) fun x26 h25 =>
  if x26 = 0 then
    some (.inl (5 : Int32), h25)
  else
    zb (zm151 x0 x5 h25) fun x29 h28 =>
    some (.inl x29, h28)
theorem zmS169_73 : ∀ (x0 : zq) (x1 : Int32) (x2 : Int32) (x3 : Int32) (x4 : Int32) (x5 : Int32) (h : zH) (r : Int32 ⊕ Nat) (h' : zH), zm169_73 x0 x1 x2 x3 x4 x5 h = some (r, h') → zAt 169 73 [some (zrv x0), some (zI x1), some (zI x2), some (zI x3), some (zI x4), some (zI x5), none, none, none] [] h (zoI r) h' := by
  intro x0 x1 x2 x3 x4 x5 h r h' H
  unfold zm169_73 at H
  refine zA_aldn rfl rfl rfl ?_
  refine zA_ldn rfl rfl rfl ?_
  refine zA_ldn rfl rfl rfl ?_
  refine zA_ldn rfl rfl rfl ?_
  refine zA_ld rfl rfl rfl ?_
  obtain ⟨p21, i22, e23, c24, H⟩ := zob_e H
  rcases zb_e H with ⟨x26, h25, C, H⟩ | ⟨E, h25, C, H⟩
  · refine zA_callV (as := [zrv x0, zI x1, zI x2, zI x3, zI x4]) (st' := []) rfl rfl rfl (zrcv_Q e23 c24) rfl (zmE168 _ _ _ _ _) rfl (zmS168 C) ?_
    rcases zite_e H with ⟨c27, H⟩ | ⟨c27, H⟩
    · refine zA_brT (c := x26 = 0) rfl rfl rfl c27 ?_
      refine zA_tr (L := [none, none, none, none, none, none, none, none, none]) rfl rfl ?_
      refine zA_push rfl rfl zkk20 ?_
      cases H
      exact zA_ret rfl rfl
    · refine zA_brF (c := x26 = 0) rfl rfl rfl c27 ?_
      refine zA_aldn rfl rfl rfl ?_
      refine zA_ld rfl rfl rfl ?_
      rcases zb_e H with ⟨x29, h28, C, H⟩ | ⟨E, h28, C, H⟩
      · refine zA_callV (as := [zrv x0, zI x5]) (st' := []) rfl rfl rfl (zrcv_Q e23 c24) rfl (zmE151 _ _) rfl (zmS151 C) ?_
        refine zA_go rfl rfl ?_
        refine zA_tr (L := [none, none, none, none, none, none, none, none, none]) rfl rfl ?_
        cases H
        exact zA_ret rfl rfl
      · cases H
        exact zA_callX (as := [zrv x0, zI x5]) (st' := []) rfl rfl (zrcv_Q e23 c24) rfl (zmE151 _ _) rfl rfl rfl (zmS151 C)
  · cases H
    exact zA_callX (as := [zrv x0, zI x1, zI x2, zI x3, zI x4]) (st' := []) rfl rfl (zrcv_Q e23 c24) rfl (zmE168 _ _ _ _ _) rfl rfl rfl (zmS168 C)
-- 169: ReleaseHouseModel.bars(IIZI)I
def zm169 (x0 : zq) (x1 : Int32) (x2 : Int32) (x3 : Int32) (x4 : Int32) (h : zH) : zRs Int32 :=
  zob 12 x0 fun p21 i22 =>
  zri (zr h p21 i22 31) x1 h fun v32 =>
  zri (zr h p21 i22 3) v32 h fun v41 =>
  zri (zr h p21 i22 12) (((3 : Int32) * v41) + x2) h fun v50 =>
  zri (zr h p21 i22 13) (((3 : Int32) * v41) + x2) h fun v59 =>
  if v50 = v32 then
    some (.inl (0 : Int32), h)
  else
    if v50 ≤ v32 then
      zrb (zr h p21 i22 50) v41 h fun v70 =>
      if v70 = 0 then
        zb (zm164 x0 x1 x2 h) fun x74 h73 =>
        if x74 = 0 then
          if v59 = (-1 : Int32) then
            zm169_73 x0 x1 x2 x3 x4 v32 h73
          else
            if v59 = v32 then
              zm169_73 x0 x1 x2 x3 x4 v32 h73
            else
              zb (zm157 x0 v59 h73) fun x79 h78 =>
              if x79 = (-1 : Int32) then
                zm169_73 x0 x1 x2 x3 x4 v32 h78
              else
                zrb (zr h78 p21 i22 10) v32 h78 fun v88 =>
                if v88 = 0 then
                  some (.inl (4 : Int32), h78)
                else
                  zrb (zr h78 p21 i22 10) v59 h78 fun v98 =>
                  if v98 = 0 then
                    zm169_73 x0 x1 x2 x3 x4 v32 h78
                  else
                    some (.inl (4 : Int32), h78)
        else
          some (.inl (3 : Int32), h73)
      else
        some (.inl (2 : Int32), h)
    else
      some (.inl (0 : Int32), h)
theorem zmS169 {x0 : zq} {x1 : Int32} {x2 : Int32} {x3 : Int32} {x4 : Int32} {h : zH} {r : Int32 ⊕ Nat} {h' : zH} (H : zm169 x0 x1 x2 x3 x4 h = some (r, h')) : zAt 169 0 [some (zrv x0), some (zI x1), some (zI x2), some (zI x3), some (zI x4), none, none, none, none] [] h (zoI r) h' := by
  unfold zm169 at H
  refine zA_aldn rfl rfl rfl ?_
  obtain ⟨p21, i22, e23, c24, H⟩ := zob_e H
  refine zA_gf3 rfl rfl e23 c24 ?_
  refine zA_ldn rfl rfl rfl ?_
  obtain ⟨p25, i26, j27, v32, e28, c29, c30, e31, e33, H⟩ := zri_e H
  refine zA_ial rfl rfl e28 c29 c30 e31 e33 ?_
  refine zA_ist2 rfl rfl rfl (zset1 (L' := [some (zrv x0), some (zI x1), some (zI x2), some (zI x3), some (zI x4), some (zI v32), none, none, none]) rfl rfl (zpcV rfl rfl)) ?_
  refine zA_aldn rfl rfl rfl ?_
  refine zA_gf3 rfl rfl e23 c24 ?_
  refine zA_ld rfl rfl rfl ?_
  obtain ⟨p34, i35, j36, v41, e37, c38, c39, e40, e42, H⟩ := zri_e H
  refine zA_ial rfl rfl e37 c38 c39 e40 e42 ?_
  refine zA_ist2 rfl rfl rfl (zset1 (L' := [some (zrv x0), some (zI x1), some (zI x2), some (zI x3), some (zI x4), some (zI v32), some (zI v41), none, none]) rfl rfl (zpcV rfl rfl)) ?_
  refine zA_aldn rfl rfl rfl ?_
  refine zA_gf3 rfl rfl e23 c24 ?_
  refine zA_push rfl rfl zkk3 ?_
  refine zA_ld rfl rfl rfl ?_
  refine zA_st (st' := [zI ((3 : Int32) * v41), zrv (zr h p21 i22 12)]) rfl rfl rfl rfl ?_
  refine zA_ldn rfl rfl rfl ?_
  refine zA_st (st' := [zI (((3 : Int32) * v41) + x2), zrv (zr h p21 i22 12)]) rfl rfl rfl rfl ?_
  obtain ⟨p43, i44, j45, v50, e46, c47, c48, e49, e51, H⟩ := zri_e H
  refine zA_ial rfl rfl e46 c47 c48 e49 e51 ?_
  refine zA_ist2 rfl rfl rfl (zset1 (L' := [some (zrv x0), some (zI x1), some (zI x2), some (zI x3), some (zI x4), some (zI v32), some (zI v41), some (zI v50), none]) rfl rfl (zpcV rfl rfl)) ?_
  refine zA_aldn rfl rfl rfl ?_
  refine zA_gf3 rfl rfl e23 c24 ?_
  refine zA_push rfl rfl zkk3 ?_
  refine zA_ld rfl rfl rfl ?_
  refine zA_st (st' := [zI ((3 : Int32) * v41), zrv (zr h p21 i22 13)]) rfl rfl rfl rfl ?_
  refine zA_ldn rfl rfl rfl ?_
  refine zA_st (st' := [zI (((3 : Int32) * v41) + x2), zrv (zr h p21 i22 13)]) rfl rfl rfl rfl ?_
  obtain ⟨p52, i53, j54, v59, e55, c56, c57, e58, e60, H⟩ := zri_e H
  refine zA_ial rfl rfl e55 c56 c57 e58 e60 ?_
  refine zA_ist2 rfl rfl rfl (zset1 (L' := [some (zrv x0), some (zI x1), some (zI x2), some (zI x3), some (zI x4), some (zI v32), some (zI v41), some (zI v50), some (zI v59)]) rfl rfl (zpcV rfl rfl)) ?_
  refine zA_ld rfl rfl rfl ?_
  refine zA_ld rfl rfl rfl ?_
  rcases zite_e H with ⟨c61, H⟩ | ⟨c61, H⟩
  · refine zA_brT (c := v50 = v32) rfl rfl rfl c61 ?_
    refine zA_tr (L := [none, none, none, none, none, none, none, none, none]) rfl rfl ?_
    refine zA_push rfl rfl zkk7 ?_
    cases H
    exact zA_ret rfl rfl
  · refine zA_brF (c := v50 = v32) rfl rfl rfl c61 ?_
    refine zA_ld rfl rfl rfl ?_
    refine zA_ld rfl rfl rfl ?_
    rcases zite_e H with ⟨c62, H⟩ | ⟨c62, H⟩
    · refine zA_brT (c := v50 ≤ v32) rfl rfl rfl c62 ?_
      refine zA_tr (L := [some (zrv x0), some (zI x1), some (zI x2), some (zI x3), some (zI x4), some (zI v32), some (zI v41), none, some (zI v59)]) rfl rfl ?_
      refine zA_aldn rfl rfl rfl ?_
      refine zA_gf3 rfl rfl e23 c24 ?_
      refine zA_ld rfl rfl rfl ?_
      obtain ⟨p63, i64, j65, v70, e66, c67, c68, e69, e71, H⟩ := zrb_e H
      refine zA_bal rfl rfl e66 c67 c68 e69 e71 ?_
      rcases zite_e H with ⟨c72, H⟩ | ⟨c72, H⟩
      · refine zA_brT (c := v70 = 0) rfl rfl rfl c72 ?_
        refine zA_tr (L := [some (zrv x0), some (zI x1), some (zI x2), some (zI x3), some (zI x4), some (zI v32), none, none, some (zI v59)]) rfl rfl ?_
        refine zA_aldn rfl rfl rfl ?_
        refine zA_ldn rfl rfl rfl ?_
        refine zA_ldn rfl rfl rfl ?_
        rcases zb_e H with ⟨x74, h73, C, H⟩ | ⟨E, h73, C, H⟩
        · refine zA_callV (as := [zrv x0, zI x1, zI x2]) (st' := []) rfl rfl rfl (zrcv_Q e23 c24) rfl (zmE164 _ _ _) rfl (zmS164 C) ?_
          rcases zite_e H with ⟨c75, H⟩ | ⟨c75, H⟩
          · refine zA_brT (c := x74 = 0) rfl rfl rfl c75 ?_
            refine zA_ld rfl rfl rfl ?_
            refine zA_push rfl rfl zkk6 ?_
            rcases zite_e H with ⟨c76, H⟩ | ⟨c76, H⟩
            · refine zA_brT (c := v59 = (-1 : Int32)) rfl rfl rfl c76 ?_
              exact zA_tr (L := [some (zrv x0), some (zI x1), some (zI x2), some (zI x3), some (zI x4), some (zI v32), none, none, none]) rfl rfl (zmS169_73 _ _ _ _ _ _ _ _ _ H)
            · refine zA_brF (c := v59 = (-1 : Int32)) rfl rfl rfl c76 ?_
              refine zA_ld rfl rfl rfl ?_
              refine zA_ld rfl rfl rfl ?_
              rcases zite_e H with ⟨c77, H⟩ | ⟨c77, H⟩
              · refine zA_brT (c := v59 = v32) rfl rfl rfl c77 ?_
                exact zA_tr (L := [some (zrv x0), some (zI x1), some (zI x2), some (zI x3), some (zI x4), some (zI v32), none, none, none]) rfl rfl (zmS169_73 _ _ _ _ _ _ _ _ _ H)
              · refine zA_brF (c := v59 = v32) rfl rfl rfl c77 ?_
                refine zA_aldn rfl rfl rfl ?_
                refine zA_ld rfl rfl rfl ?_
                rcases zb_e H with ⟨x79, h78, C, H⟩ | ⟨E, h78, C, H⟩
                · refine zA_callV (as := [zrv x0, zI v59]) (st' := []) rfl rfl rfl (zrcv_Q e23 c24) rfl (zmE157 _ _) rfl (zmS157 C) ?_
                  refine zA_push rfl rfl zkk6 ?_
                  rcases zite_e H with ⟨c80, H⟩ | ⟨c80, H⟩
                  · refine zA_brT (c := x79 = (-1 : Int32)) rfl rfl rfl c80 ?_
                    exact zA_tr (L := [some (zrv x0), some (zI x1), some (zI x2), some (zI x3), some (zI x4), some (zI v32), none, none, none]) rfl rfl (zmS169_73 _ _ _ _ _ _ _ _ _ H)
                  · refine zA_brF (c := x79 = (-1 : Int32)) rfl rfl rfl c80 ?_
                    refine zA_aldn rfl rfl rfl ?_
                    refine zA_gf3 rfl rfl e23 c24 ?_
                    refine zA_ld rfl rfl rfl ?_
                    obtain ⟨p81, i82, j83, v88, e84, c85, c86, e87, e89, H⟩ := zrb_e H
                    refine zA_bal rfl rfl e84 c85 c86 e87 e89 ?_
                    rcases zite_e H with ⟨c90, H⟩ | ⟨c90, H⟩
                    · refine zA_brT (c := v88 = 0) rfl rfl rfl c90 ?_
                      refine zA_tr (L := [none, none, none, none, none, none, none, none, none]) rfl rfl ?_
                      refine zA_push rfl rfl zkk9 ?_
                      cases H
                      exact zA_ret rfl rfl
                    · refine zA_brF (c := v88 = 0) rfl rfl rfl c90 ?_
                      refine zA_aldn rfl rfl rfl ?_
                      refine zA_gf3 rfl rfl e23 c24 ?_
                      refine zA_ld rfl rfl rfl ?_
                      obtain ⟨p91, i92, j93, v98, e94, c95, c96, e97, e99, H⟩ := zrb_e H
                      refine zA_bal rfl rfl e94 c95 c96 e97 e99 ?_
                      rcases zite_e H with ⟨c100, H⟩ | ⟨c100, H⟩
                      · refine zA_brT (c := v98 = 0) rfl rfl rfl c100 ?_
                        exact zA_tr (L := [some (zrv x0), some (zI x1), some (zI x2), some (zI x3), some (zI x4), some (zI v32), none, none, none]) rfl rfl (zmS169_73 _ _ _ _ _ _ _ _ _ H)
                      · refine zA_brF (c := v98 = 0) rfl rfl rfl c100 ?_
                        refine zA_tr (L := [none, none, none, none, none, none, none, none, none]) rfl rfl ?_
                        refine zA_push rfl rfl zkk9 ?_
                        cases H
                        exact zA_ret rfl rfl
                · cases H
                  exact zA_callX (as := [zrv x0, zI v59]) (st' := []) rfl rfl (zrcv_Q e23 c24) rfl (zmE157 _ _) rfl rfl rfl (zmS157 C)
          · refine zA_brF (c := x74 = 0) rfl rfl rfl c75 ?_
            refine zA_push rfl rfl zkk3 ?_
            cases H
            exact zA_ret rfl rfl
        · cases H
          exact zA_callX (as := [zrv x0, zI x1, zI x2]) (st' := []) rfl rfl (zrcv_Q e23 c24) rfl (zmE164 _ _ _) rfl rfl rfl (zmS164 C)
      · refine zA_brF (c := v70 = 0) rfl rfl rfl c72 ?_
        refine zA_push rfl rfl zkk23 ?_
        cases H
        exact zA_ret rfl rfl
    · refine zA_brF (c := v50 ≤ v32) rfl rfl rfl c62 ?_
      refine zA_tr (L := [none, none, none, none, none, none, none, none, none]) rfl rfl ?_
      refine zA_push rfl rfl zkk7 ?_
      cases H
      exact zA_ret rfl rfl
theorem zmE169 (x0 : zq) (x1 : Int32) (x2 : Int32) (x3 : Int32) (x4 : Int32) : zpad (zPr.2.1 169).1 (zil [zrv x0, zI x1, zI x2, zI x3, zI x4]) = [some (zrv x0), some (zI x1), some (zI x2), some (zI x3), some (zI x4), none, none, none, none] := by
  simp only [zil_A, zil_I, zil_F, zil_D, zil_N]
  rfl
def zm212_4 : Nat → Int32 → Int32 → zH → zRs Int32
  | 0, _, _, _ => none
  | n + 1, x1, x2, h =>
    if x2 ≤ 0 then
      some (.inl x1, h)
    else
      zlet (x1 + (1 : Int32)) fun x22 =>
      zlet (x2 / (2 : Int32)) fun x25 =>
      zm212_4 n x22 x25 h
theorem zmS212_4 : ∀ (n : Nat) (x1 : Int32) (x2 : Int32) (h : zH) (r : Int32 ⊕ Nat) (h' : zH), zm212_4 n x1 x2 h = some (r, h') → zAt 212 4 [none, some (zI x1), some (zI x2)] [] h (zoI r) h' := by
  intro n
  induction n with
  | zero => intro x1 x2 h r h' H; cases H
  | succ n ih =>
    intro x1 x2 h r h' H
    unfold zm212_4 at H
    refine zA_ldn rfl rfl rfl ?_
    rcases zite_e H with ⟨c21, H⟩ | ⟨c21, H⟩
    · refine zA_brT (c := x2 ≤ 0) rfl rfl rfl c21 ?_
      refine zA_tr (L := [none, some (zI x1), none]) rfl rfl ?_
      refine zA_ldn rfl rfl rfl ?_
      cases H
      exact zA_ret rfl rfl
    · refine zA_brF (c := x2 ≤ 0) rfl rfl rfl c21 ?_
      obtain ⟨x22, e23, H⟩ := zlet_e H
      refine zA_inc rfl rfl rfl (e23.trans (congrArg (_ + ·) zkk8)) (zset1 (L' := [none, some (zI x22), some (zI x2)]) rfl rfl (zpcN rfl)) ?_
      refine zA_ldn rfl rfl rfl ?_
      refine zA_push rfl rfl zkk23 ?_
      refine zA_div rfl rfl (by decide) ?_
      obtain ⟨x25, e26, H⟩ := zlet_e H
      refine zA_istn2 rfl rfl e26 (zset1 (L' := [none, some (zI x22), some (zI x25)]) rfl rfl (zpcV rfl rfl)) ?_
      refine zA_go rfl rfl ?_
      exact zA_tr (L := [none, some (zI x22), some (zI x25)]) rfl rfl (ih _ _ _ _ _ H)
-- 212: ReleaseHouseModel.bucket(I)I
def zm212 (x0 : Int32) (h : zH) : zRs Int32 :=
  zm212_4 zN0 (0 : Int32) x0 h
theorem zmS212 {x0 : Int32} {h : zH} {r : Int32 ⊕ Nat} {h' : zH} (H : zm212 x0 h = some (r, h')) : zAt 212 0 [some (zI x0), none, none] [] h (zoI r) h' := by
  unfold zm212 at H
  refine zA_push rfl rfl zkk7 ?_
  refine zA_istn2 rfl rfl rfl (zset1 (L' := [some (zI x0), some (zI (0 : Int32)), none]) rfl rfl (zpcV rfl rfl)) ?_
  refine zA_ldn rfl rfl rfl ?_
  refine zA_istn2 rfl rfl rfl (zset1 (L' := [some (zI x0), some (zI (0 : Int32)), some (zI x0)]) rfl rfl (zpcV rfl rfl)) ?_
  exact zA_tr (L := [none, some (zI (0 : Int32)), some (zI x0)]) rfl rfl (zmS212_4 zN0 _ _ _ _ _ H)
theorem zmE212 (x0 : Int32) : zpad (zPr.2.1 212).1 (zil [zI x0]) = [some (zI x0), none, none] := by
  simp only [zil_A, zil_I, zil_F, zil_D, zil_N]
  rfl
def zm213_38 (k17 : zq → Int32 → Int32 → Int32 → Int32 → zH → zRs Int32) (x0 : zq) (x1 : Int32) (x2 : Int32) (x4 : Int32) (s0 : Int32) (s1 : Int32) (h : zH) : zRs Int32 :=
  zlet (s0 + s1) fun x21 =>
  zlet (x4 + (1 : Int32)) fun x23 =>
  k17 x0 x1 x2 x21 x23 h
theorem zmS213_38 {k17 : zq → Int32 → Int32 → Int32 → Int32 → zH → zRs Int32} (hk17 : ∀ (x0 : zq) (x1 : Int32) (x2 : Int32) (x3 : Int32) (x4 : Int32) (h : zH) (r : Int32 ⊕ Nat) (h' : zH), k17 x0 x1 x2 x3 x4 h = some (r, h') → zAt 213 17 [some (zrv x0), some (zI x1), some (zI x2), some (zI x3), some (zI x4)] [] h (zoI r) h') : ∀ (x0 : zq) (x1 : Int32) (x2 : Int32) (x4 : Int32) (s0 : Int32) (s1 : Int32) (h : zH) (r : Int32 ⊕ Nat) (h' : zH), zm213_38 k17 x0 x1 x2 x4 s0 s1 h = some (r, h') → zAt 213 38 [some (zrv x0), some (zI x1), some (zI x2), none, some (zI x4)] [zI s1, zI s0] h (zoI r) h' := by
  intro x0 x1 x2 x4 s0 s1 h r h' H
  unfold zm213_38 at H
  refine zA_st (st' := [zI (s0 + s1)]) rfl rfl rfl rfl ?_
  obtain ⟨x21, e22, H⟩ := zlet_e H
  refine zA_istn2 rfl rfl e22 (zset1 (L' := [some (zrv x0), some (zI x1), some (zI x2), some (zI x21), some (zI x4)]) rfl rfl (zpcV rfl rfl)) ?_
  obtain ⟨x23, e24, H⟩ := zlet_e H
  refine zA_inc rfl rfl rfl (e24.trans (congrArg (_ + ·) zkk8)) (zset1 (L' := [some (zrv x0), some (zI x1), some (zI x2), some (zI x21), some (zI x23)]) rfl rfl (zpcV rfl rfl)) ?_
  refine zA_go rfl rfl ?_
  exact zA_tr (L := [some (zrv x0), some (zI x1), some (zI x2), some (zI x21), some (zI x23)]) rfl rfl (hk17 _ _ _ _ _ _ _ _ H)
def zm213_17 (k4 : zq → Int32 → Int32 → Int32 → zH → zRs Int32) : Nat → zq → Int32 → Int32 → Int32 → Int32 → zH → zRs Int32
  | 0, _, _, _, _, _, _ => none
  | n + 1, x0, x1, x2, x3, x4, h =>
    zob 12 x0 fun p21 i22 =>
    zri (zr h p21 i22 47) x1 h fun v32 =>
    if v32 ≤ x4 then
      k4 x0 x1 x2 x3 h
    else
      zri (zr h p21 i22 49) (((600 : Int32) * x1) + x4) h fun v42 =>
      zb (zm212 v42 h) fun x45 h44 =>
      if x45 = x2 then
        zm213_38 (zm213_17 k4 n) x0 x1 x2 x4 x3 (1 : Int32) h44
      else
        zm213_38 (zm213_17 k4 n) x0 x1 x2 x4 x3 (0 : Int32) h44
theorem zmS213_17 {k4 : zq → Int32 → Int32 → Int32 → zH → zRs Int32} (hk4 : ∀ (x0 : zq) (x1 : Int32) (x2 : Int32) (x3 : Int32) (h : zH) (r : Int32 ⊕ Nat) (h' : zH), k4 x0 x1 x2 x3 h = some (r, h') → zAt 213 4 [some (zrv x0), some (zI x1), some (zI x2), some (zI x3), none] [] h (zoI r) h') : ∀ (n : Nat) (x0 : zq) (x1 : Int32) (x2 : Int32) (x3 : Int32) (x4 : Int32) (h : zH) (r : Int32 ⊕ Nat) (h' : zH), zm213_17 k4 n x0 x1 x2 x3 x4 h = some (r, h') → zAt 213 17 [some (zrv x0), some (zI x1), some (zI x2), some (zI x3), some (zI x4)] [] h (zoI r) h' := by
  intro n
  induction n with
  | zero => intro x0 x1 x2 x3 x4 h r h' H; cases H
  | succ n ih =>
    intro x0 x1 x2 x3 x4 h r h' H
    unfold zm213_17 at H
    refine zA_ld rfl rfl rfl ?_
    refine zA_aldn rfl rfl rfl ?_
    obtain ⟨p21, i22, e23, c24, H⟩ := zob_e H
    refine zA_gf3 rfl rfl e23 c24 ?_
    refine zA_ldn rfl rfl rfl ?_
    obtain ⟨p25, i26, j27, v32, e28, c29, c30, e31, e33, H⟩ := zri_e H
    refine zA_ial rfl rfl e28 c29 c30 e31 e33 ?_
    rcases zite_e H with ⟨c34, H⟩ | ⟨c34, H⟩
    · refine zA_brT (c := v32 ≤ x4) rfl rfl rfl c34 ?_
      refine zA_tr (L := [some (zrv x0), some (zI x1), some (zI x2), some (zI x3), none]) rfl rfl ?_
      refine zA_go rfl rfl ?_
      exact zA_tr (L := [some (zrv x0), some (zI x1), some (zI x2), some (zI x3), none]) rfl rfl (hk4 _ _ _ _ _ _ _ H)
    · refine zA_brF (c := v32 ≤ x4) rfl rfl rfl c34 ?_
      refine zA_ldn rfl rfl rfl ?_
      refine zA_aldn rfl rfl rfl ?_
      refine zA_gf3 rfl rfl e23 c24 ?_
      refine zA_push rfl rfl zkk41 ?_
      refine zA_ldn rfl rfl rfl ?_
      refine zA_st (st' := [zI ((600 : Int32) * x1), zrv (zr h p21 i22 49), zI x3]) rfl rfl rfl rfl ?_
      refine zA_ld rfl rfl rfl ?_
      refine zA_st (st' := [zI (((600 : Int32) * x1) + x4), zrv (zr h p21 i22 49), zI x3]) rfl rfl rfl rfl ?_
      obtain ⟨p35, i36, j37, v42, e38, c39, c40, e41, e43, H⟩ := zri_e H
      refine zA_ial rfl rfl e38 c39 c40 e41 e43 ?_
      rcases zb_e H with ⟨x45, h44, C, H⟩ | ⟨E, h44, C, H⟩
      · refine zA_callV (as := [zI v42]) (st' := [zI x3]) rfl rfl rfl rfl rfl (zmE212 _) rfl (zmS212 C) ?_
        refine zA_ldn rfl rfl rfl ?_
        rcases zite_e H with ⟨c46, H⟩ | ⟨c46, H⟩
        · refine zA_brF' (c := x45 = x2) rfl rfl rfl c46 ?_
          refine zA_push rfl rfl zkk5 ?_
          refine zA_go rfl rfl ?_
          exact zA_tr (L := [some (zrv x0), some (zI x1), some (zI x2), none, some (zI x4)]) rfl rfl (zmS213_38 ih _ _ _ _ _ _ _ _ _ H)
        · refine zA_brT' (c := x45 = x2) rfl rfl rfl c46 ?_
          refine zA_tr (L := [some (zrv x0), some (zI x1), some (zI x2), none, some (zI x4)]) rfl rfl ?_
          refine zA_push rfl rfl zkk7 ?_
          exact zA_tr (L := [some (zrv x0), some (zI x1), some (zI x2), none, some (zI x4)]) rfl rfl (zmS213_38 ih _ _ _ _ _ _ _ _ _ H)
      · cases H
        exact zA_callX (as := [zI v42]) (st' := [zI x3]) rfl rfl rfl rfl (zmE212 _) rfl rfl rfl (zmS212 C)
def zm213_4 : Nat → zq → Int32 → Int32 → Int32 → zH → zRs Int32
  | 0, _, _, _, _, _ => none
  | n + 1, x0, x1, x2, x3, h =>
    zob 12 x0 fun p21 i22 =>
    zri (zr h p21 i22 47) x1 h fun v32 =>
    if ((9 : Int32) * v32) ≤ ((10 : Int32) * x3) then
      some (.inl x2, h)
    else
      zlet (x2 + (1 : Int32)) fun x35 =>
      zm213_17 (zm213_4 n) zN0 x0 x1 x35 x3 (0 : Int32) h
theorem zmS213_4 : ∀ (n : Nat) (x0 : zq) (x1 : Int32) (x2 : Int32) (x3 : Int32) (h : zH) (r : Int32 ⊕ Nat) (h' : zH), zm213_4 n x0 x1 x2 x3 h = some (r, h') → zAt 213 4 [some (zrv x0), some (zI x1), some (zI x2), some (zI x3), none] [] h (zoI r) h' := by
  intro n
  induction n with
  | zero => intro x0 x1 x2 x3 h r h' H; cases H
  | succ n ih =>
    intro x0 x1 x2 x3 h r h' H
    unfold zm213_4 at H
    refine zA_push rfl rfl zkk27 ?_
    refine zA_ldn rfl rfl rfl ?_
    refine zA_st (st' := [zI ((10 : Int32) * x3)]) rfl rfl rfl rfl ?_
    refine zA_push rfl rfl zkk19 ?_
    refine zA_aldn rfl rfl rfl ?_
    obtain ⟨p21, i22, e23, c24, H⟩ := zob_e H
    refine zA_gf3 rfl rfl e23 c24 ?_
    refine zA_ldn rfl rfl rfl ?_
    obtain ⟨p25, i26, j27, v32, e28, c29, c30, e31, e33, H⟩ := zri_e H
    refine zA_ial rfl rfl e28 c29 c30 e31 e33 ?_
    refine zA_st (st' := [zI ((9 : Int32) * v32), zI ((10 : Int32) * x3)]) rfl rfl rfl rfl ?_
    rcases zite_e H with ⟨c34, H⟩ | ⟨c34, H⟩
    · refine zA_brT (c := ((9 : Int32) * v32) ≤ ((10 : Int32) * x3)) rfl rfl rfl c34 ?_
      refine zA_tr (L := [none, none, some (zI x2), none, none]) rfl rfl ?_
      refine zA_ldn rfl rfl rfl ?_
      cases H
      exact zA_ret rfl rfl
    · refine zA_brF (c := ((9 : Int32) * v32) ≤ ((10 : Int32) * x3)) rfl rfl rfl c34 ?_
      obtain ⟨x35, e36, H⟩ := zlet_e H
      refine zA_inc rfl rfl rfl (e36.trans (congrArg (_ + ·) zkk8)) (zset1 (L' := [some (zrv x0), some (zI x1), some (zI x35), some (zI x3), none]) rfl rfl (zpcV rfl rfl)) ?_
      refine zA_push rfl rfl zkk7 ?_
      refine zA_ist2 rfl rfl rfl (zset1 (L' := [some (zrv x0), some (zI x1), some (zI x35), some (zI x3), some (zI (0 : Int32))]) rfl rfl (zpcV rfl rfl)) ?_
      exact zA_tr (L := [some (zrv x0), some (zI x1), some (zI x35), some (zI x3), some (zI (0 : Int32))]) rfl rfl (zmS213_17 ih zN0 _ _ _ _ _ _ _ _ H)
-- 213: ReleaseHouseModel.slow(I)I
def zm213 (x0 : zq) (x1 : Int32) (h : zH) : zRs Int32 :=
  zm213_4 zN0 x0 x1 (-1 : Int32) (0 : Int32) h
theorem zmS213 {x0 : zq} {x1 : Int32} {h : zH} {r : Int32 ⊕ Nat} {h' : zH} (H : zm213 x0 x1 h = some (r, h')) : zAt 213 0 [some (zrv x0), some (zI x1), none, none, none] [] h (zoI r) h' := by
  unfold zm213 at H
  refine zA_push rfl rfl zkk6 ?_
  refine zA_istn2 rfl rfl rfl (zset1 (L' := [some (zrv x0), some (zI x1), some (zI (-1 : Int32)), none, none]) rfl rfl (zpcV rfl rfl)) ?_
  refine zA_push rfl rfl zkk7 ?_
  refine zA_istn2 rfl rfl rfl (zset1 (L' := [some (zrv x0), some (zI x1), some (zI (-1 : Int32)), some (zI (0 : Int32)), none]) rfl rfl (zpcV rfl rfl)) ?_
  exact zA_tr (L := [some (zrv x0), some (zI x1), some (zI (-1 : Int32)), some (zI (0 : Int32)), none]) rfl rfl (zmS213_4 zN0 _ _ _ _ _ _ _ H)
theorem zmE213 (x0 : zq) (x1 : Int32) : zpad (zPr.2.1 213).1 (zil [zrv x0, zI x1]) = [some (zrv x0), some (zI x1), none, none, none] := by
  simp only [zil_A, zil_I, zil_F, zil_D, zil_N]
  rfl
-- 210: ReleaseHouseModel.pairs(I)I
def zm210 (x0 : zq) (x1 : Int32) (h : zH) : zRs Int32 :=
  zob 12 x0 fun p21 i22 =>
  zri (zr h p21 i22 47) ((2 : Int32) * x1) h fun v32 =>
  zri (zr h p21 i22 47) (((2 : Int32) * x1) + (1 : Int32)) h fun v41 =>
  if v41 ≤ v32 then
    zri (zr h p21 i22 47) (((2 : Int32) * x1) + (1 : Int32)) h fun v51 =>
    some (.inl v51, h)
  else
    zri (zr h p21 i22 47) ((2 : Int32) * x1) h fun v60 =>
    some (.inl v60, h)
theorem zmS210 {x0 : zq} {x1 : Int32} {h : zH} {r : Int32 ⊕ Nat} {h' : zH} (H : zm210 x0 x1 h = some (r, h')) : zAt 210 0 [some (zrv x0), some (zI x1)] [] h (zoI r) h' := by
  unfold zm210 at H
  refine zA_aldn rfl rfl rfl ?_
  obtain ⟨p21, i22, e23, c24, H⟩ := zob_e H
  refine zA_gf3 rfl rfl e23 c24 ?_
  refine zA_push rfl rfl zkk23 ?_
  refine zA_ldn rfl rfl rfl ?_
  refine zA_st (st' := [zI ((2 : Int32) * x1), zrv (zr h p21 i22 47)]) rfl rfl rfl rfl ?_
  obtain ⟨p25, i26, j27, v32, e28, c29, c30, e31, e33, H⟩ := zri_e H
  refine zA_ial rfl rfl e28 c29 c30 e31 e33 ?_
  refine zA_aldn rfl rfl rfl ?_
  refine zA_gf3 rfl rfl e23 c24 ?_
  refine zA_push rfl rfl zkk23 ?_
  refine zA_ldn rfl rfl rfl ?_
  refine zA_st (st' := [zI ((2 : Int32) * x1), zrv (zr h p21 i22 47), zI v32]) rfl rfl rfl rfl ?_
  refine zA_push rfl rfl zkk5 ?_
  refine zA_st (st' := [zI (((2 : Int32) * x1) + (1 : Int32)), zrv (zr h p21 i22 47), zI v32]) rfl rfl rfl rfl ?_
  obtain ⟨p34, i35, j36, v41, e37, c38, c39, e40, e42, H⟩ := zri_e H
  refine zA_ial rfl rfl e37 c38 c39 e40 e42 ?_
  rcases zite_e H with ⟨c43, H⟩ | ⟨c43, H⟩
  · refine zA_brT (c := v41 ≤ v32) rfl rfl rfl c43 ?_
    refine zA_aldn rfl rfl rfl ?_
    refine zA_gf3 rfl rfl e23 c24 ?_
    refine zA_push rfl rfl zkk23 ?_
    refine zA_ldn rfl rfl rfl ?_
    refine zA_st (st' := [zI ((2 : Int32) * x1), zrv (zr h p21 i22 47)]) rfl rfl rfl rfl ?_
    refine zA_push rfl rfl zkk5 ?_
    refine zA_st (st' := [zI (((2 : Int32) * x1) + (1 : Int32)), zrv (zr h p21 i22 47)]) rfl rfl rfl rfl ?_
    obtain ⟨p44, i45, j46, v51, e47, c48, c49, e50, e52, H⟩ := zri_e H
    refine zA_ial rfl rfl e47 c48 c49 e50 e52 ?_
    refine zA_tr (L := [none, none]) rfl rfl ?_
    cases H
    exact zA_ret rfl rfl
  · refine zA_brF (c := v41 ≤ v32) rfl rfl rfl c43 ?_
    refine zA_aldn rfl rfl rfl ?_
    refine zA_gf3 rfl rfl e23 c24 ?_
    refine zA_push rfl rfl zkk23 ?_
    refine zA_ldn rfl rfl rfl ?_
    refine zA_st (st' := [zI ((2 : Int32) * x1), zrv (zr h p21 i22 47)]) rfl rfl rfl rfl ?_
    obtain ⟨p53, i54, j55, v60, e56, c57, c58, e59, e61, H⟩ := zri_e H
    refine zA_ial rfl rfl e56 c57 c58 e59 e61 ?_
    refine zA_go rfl rfl ?_
    refine zA_tr (L := [none, none]) rfl rfl ?_
    cases H
    exact zA_ret rfl rfl
theorem zmE210 (x0 : zq) (x1 : Int32) : zpad (zPr.2.1 210).1 (zil [zrv x0, zI x1]) = [some (zrv x0), some (zI x1)] := by
  simp only [zil_A, zil_I, zil_F, zil_D, zil_N]
  rfl
def zm211_46 (k4 : zq → Int32 → UInt64 → Int32 → zH → zRs UInt64) (x0 : zq) (x1 : Int32) (x4 : Int32) (s0 : UInt64) (s1 : UInt64) (h : zH) : zRs UInt64 :=
  zif (FP.dmul s0 s1 &&& 0x7fffffffffffffff ≤ 0x7ff0000000000000) <|
  zlet (FP.dmul s0 s1) fun x22 =>
  zlet (x4 + (1 : Int32)) fun x24 =>
  k4 x0 x1 x22 x24 h
theorem zmS211_46 {k4 : zq → Int32 → UInt64 → Int32 → zH → zRs UInt64} (hk4 : ∀ (x0 : zq) (x1 : Int32) (x2 : UInt64) (x4 : Int32) (h : zH) (r : UInt64 ⊕ Nat) (h' : zH), k4 x0 x1 x2 x4 h = some (r, h') → zAt 211 4 [some (zrv x0), some (zI x1), some (zD x2), none, some (zI x4), none, none] [] h (zoD r) h') : ∀ (x0 : zq) (x1 : Int32) (x4 : Int32) (s0 : UInt64) (s1 : UInt64) (h : zH) (r : UInt64 ⊕ Nat) (h' : zH), zm211_46 k4 x0 x1 x4 s0 s1 h = some (r, h') → zAt 211 46 [some (zrv x0), some (zI x1), none, none, some (zI x4), none, none] [zD s1, zD s0] h (zoD r) h' := by
  intro x0 x1 x4 s0 s1 h r h' H
  unfold zm211_46 at H
  obtain ⟨c21, H⟩ := zif_e H
  refine zA_dmul rfl rfl c21 ?_
  obtain ⟨x22, e23, H⟩ := zlet_e H
  refine zA_dstn2 rfl rfl e23 (zset2 (L' := [some (zrv x0), some (zI x1), some (zD x22), none, some (zI x4), none, none]) rfl rfl (zpcV rfl rfl) rfl) ?_
  obtain ⟨x24, e25, H⟩ := zlet_e H
  refine zA_inc rfl rfl rfl (e25.trans (congrArg (_ + ·) zkk8)) (zset1 (L' := [some (zrv x0), some (zI x1), some (zD x22), none, some (zI x24), none, none]) rfl rfl (zpcN rfl)) ?_
  refine zA_go rfl rfl ?_
  exact zA_tr (L := [some (zrv x0), some (zI x1), some (zD x22), none, some (zI x24), none, none]) rfl rfl (hk4 _ _ _ _ _ _ _ H)
def zm211_4 (k50 : UInt64 → zH → zRs UInt64) : Nat → zq → Int32 → UInt64 → Int32 → zH → zRs UInt64
  | 0, _, _, _, _, _ => none
  | n + 1, x0, x1, x2, x4, h =>
    zob 12 x0 fun p21 i22 =>
    zb (zm210 x0 x1 h) fun x26 h25 =>
    if x26 ≤ x4 then
      k50 x2 h25
    else
      if 0 ≤ (Op.cmpValue (FP.dcmp x2 (4626322717216342016 : UInt64)) .g) then
        k50 x2 h25
      else
        zrb (zr h25 p21 i22 48) (((600 : Int32) * (((2 : Int32) * x1) + (1 : Int32))) + x4) h25 fun v36 =>
        zrb (zr h25 p21 i22 48) (((1200 : Int32) * x1) + x4) h25 fun v45 =>
        if v36 = v45 then
          zm211_46 (zm211_4 k50 n) x0 x1 x4 x2 (4607182418800017408 : UInt64) h25
        else
          if v36 = 0 then
            zm211_46 (zm211_4 k50 n) x0 x1 x4 x2 (4602678819172646912 : UInt64) h25
          else
            zm211_46 (zm211_4 k50 n) x0 x1 x4 x2 (4609434218613702656 : UInt64) h25
theorem zmS211_4 {k50 : UInt64 → zH → zRs UInt64} (hk50 : ∀ (x2 : UInt64) (h : zH) (r : UInt64 ⊕ Nat) (h' : zH), k50 x2 h = some (r, h') → zAt 211 50 [none, none, some (zD x2), none, none, none, none] [] h (zoD r) h') : ∀ (n : Nat) (x0 : zq) (x1 : Int32) (x2 : UInt64) (x4 : Int32) (h : zH) (r : UInt64 ⊕ Nat) (h' : zH), zm211_4 k50 n x0 x1 x2 x4 h = some (r, h') → zAt 211 4 [some (zrv x0), some (zI x1), some (zD x2), none, some (zI x4), none, none] [] h (zoD r) h' := by
  intro n
  induction n with
  | zero => intro x0 x1 x2 x4 h r h' H; cases H
  | succ n ih =>
    intro x0 x1 x2 x4 h r h' H
    unfold zm211_4 at H
    refine zA_ld rfl rfl rfl ?_
    refine zA_aldn rfl rfl rfl ?_
    refine zA_ldn rfl rfl rfl ?_
    obtain ⟨p21, i22, e23, c24, H⟩ := zob_e H
    rcases zb_e H with ⟨x26, h25, C, H⟩ | ⟨E, h25, C, H⟩
    · refine zA_callV (as := [zrv x0, zI x1]) (st' := [zI x4]) rfl rfl rfl (zrcv_Q e23 c24) rfl (zmE210 _ _) rfl (zmS210 C) ?_
      rcases zite_e H with ⟨c27, H⟩ | ⟨c27, H⟩
      · refine zA_brT (c := x26 ≤ x4) rfl rfl rfl c27 ?_
        exact zA_tr (L := [none, none, some (zD x2), none, none, none, none]) rfl rfl (hk50 _ _ _ _ H)
      · refine zA_brF (c := x26 ≤ x4) rfl rfl rfl c27 ?_
        refine zA_dldn rfl rfl rfl ?_
        refine zA_push rfl rfl zkk42 ?_
        refine zA_st (st' := [zI (Op.cmpValue (FP.dcmp x2 (4626322717216342016 : UInt64)) .g)]) rfl rfl rfl rfl ?_
        rcases zite_e H with ⟨c28, H⟩ | ⟨c28, H⟩
        · refine zA_brT (c := 0 ≤ (Op.cmpValue (FP.dcmp x2 (4626322717216342016 : UInt64)) .g)) rfl rfl rfl c28 ?_
          exact zA_tr (L := [none, none, some (zD x2), none, none, none, none]) rfl rfl (hk50 _ _ _ _ H)
        · refine zA_brF (c := 0 ≤ (Op.cmpValue (FP.dcmp x2 (4626322717216342016 : UInt64)) .g)) rfl rfl rfl c28 ?_
          refine zA_aldn rfl rfl rfl ?_
          refine zA_gf3 rfl rfl e23 c24 ?_
          refine zA_push rfl rfl zkk41 ?_
          refine zA_push rfl rfl zkk23 ?_
          refine zA_ldn rfl rfl rfl ?_
          refine zA_st (st' := [zI ((2 : Int32) * x1), zI (600 : Int32), zrv (zr h25 p21 i22 48)]) rfl rfl rfl rfl ?_
          refine zA_push rfl rfl zkk5 ?_
          refine zA_st (st' := [zI (((2 : Int32) * x1) + (1 : Int32)), zI (600 : Int32), zrv (zr h25 p21 i22 48)]) rfl rfl rfl rfl ?_
          refine zA_st (st' := [zI ((600 : Int32) * (((2 : Int32) * x1) + (1 : Int32))), zrv (zr h25 p21 i22 48)]) rfl rfl rfl rfl ?_
          refine zA_ld rfl rfl rfl ?_
          refine zA_st (st' := [zI (((600 : Int32) * (((2 : Int32) * x1) + (1 : Int32))) + x4), zrv (zr h25 p21 i22 48)]) rfl rfl rfl rfl ?_
          obtain ⟨p29, i30, j31, v36, e32, c33, c34, e35, e37, H⟩ := zrb_e H
          refine zA_bal rfl rfl e32 c33 c34 e35 e37 ?_
          refine zA_ist2 rfl rfl rfl (zset1 (L' := [some (zrv x0), some (zI x1), some (zD x2), none, some (zI x4), some (zI v36), none]) rfl rfl (zpcV rfl rfl)) ?_
          refine zA_aldn rfl rfl rfl ?_
          refine zA_gf3 rfl rfl e23 c24 ?_
          refine zA_push rfl rfl zkk43 ?_
          refine zA_ldn rfl rfl rfl ?_
          refine zA_st (st' := [zI ((1200 : Int32) * x1), zrv (zr h25 p21 i22 48)]) rfl rfl rfl rfl ?_
          refine zA_ld rfl rfl rfl ?_
          refine zA_st (st' := [zI (((1200 : Int32) * x1) + x4), zrv (zr h25 p21 i22 48)]) rfl rfl rfl rfl ?_
          obtain ⟨p38, i39, j40, v45, e41, c42, c43, e44, e46, H⟩ := zrb_e H
          refine zA_bal rfl rfl e41 c42 c43 e44 e46 ?_
          refine zA_ist2 rfl rfl rfl (zset1 (L' := [some (zrv x0), some (zI x1), some (zD x2), none, some (zI x4), some (zI v36), some (zI v45)]) rfl rfl (zpcV rfl rfl)) ?_
          refine zA_dldn rfl rfl rfl ?_
          refine zA_ld rfl rfl rfl ?_
          refine zA_ld rfl rfl rfl ?_
          rcases zite_e H with ⟨c47, H⟩ | ⟨c47, H⟩
          · refine zA_brF' (c := v36 = v45) rfl rfl rfl c47 ?_
            refine zA_push rfl rfl zkk2 ?_
            refine zA_go rfl rfl ?_
            exact zA_tr (L := [some (zrv x0), some (zI x1), none, none, some (zI x4), none, none]) rfl rfl (zmS211_46 ih _ _ _ _ _ _ _ _ H)
          · refine zA_brT' (c := v36 = v45) rfl rfl rfl c47 ?_
            refine zA_tr (L := [some (zrv x0), some (zI x1), none, none, some (zI x4), some (zI v36), none]) rfl rfl ?_
            refine zA_ld rfl rfl rfl ?_
            rcases zite_e H with ⟨c48, H⟩ | ⟨c48, H⟩
            · refine zA_brT (c := v36 = 0) rfl rfl rfl c48 ?_
              refine zA_tr (L := [some (zrv x0), some (zI x1), none, none, some (zI x4), none, none]) rfl rfl ?_
              refine zA_push rfl rfl zkk44 ?_
              exact zA_tr (L := [some (zrv x0), some (zI x1), none, none, some (zI x4), none, none]) rfl rfl (zmS211_46 ih _ _ _ _ _ _ _ _ H)
            · refine zA_brF (c := v36 = 0) rfl rfl rfl c48 ?_
              refine zA_push rfl rfl zkk45 ?_
              refine zA_go rfl rfl ?_
              exact zA_tr (L := [some (zrv x0), some (zI x1), none, none, some (zI x4), none, none]) rfl rfl (zmS211_46 ih _ _ _ _ _ _ _ _ H)
    · cases H
      exact zA_callX (as := [zrv x0, zI x1]) (st' := [zI x4]) rfl rfl (zrcv_Q e23 c24) rfl (zmE210 _ _) rfl rfl rfl (zmS210 C)
def zm211_50 (x2 : UInt64) (h : zH) : zRs UInt64 :=
  some (.inl x2, h)
theorem zmS211_50 : ∀ (x2 : UInt64) (h : zH) (r : UInt64 ⊕ Nat) (h' : zH), zm211_50 x2 h = some (r, h') → zAt 211 50 [none, none, some (zD x2), none, none, none, none] [] h (zoD r) h' := by
  intro x2 h r h' H
  unfold zm211_50 at H
  refine zA_dldn rfl rfl rfl ?_
  cases H
  exact zA_ret rfl rfl
-- 211: ReleaseHouseModel.capitalOf(I)D
def zm211 (x0 : zq) (x1 : Int32) (h : zH) : zRs UInt64 :=
  zm211_4 (zm211_50) zN0 x0 x1 (4607182418800017408 : UInt64) (0 : Int32) h
theorem zmS211 {x0 : zq} {x1 : Int32} {h : zH} {r : UInt64 ⊕ Nat} {h' : zH} (H : zm211 x0 x1 h = some (r, h')) : zAt 211 0 [some (zrv x0), some (zI x1), none, none, none, none, none] [] h (zoD r) h' := by
  unfold zm211 at H
  refine zA_push rfl rfl zkk2 ?_
  refine zA_dstn2 rfl rfl rfl (zset2 (L' := [some (zrv x0), some (zI x1), some (zD (4607182418800017408 : UInt64)), none, none, none, none]) rfl rfl (zpcV rfl rfl) rfl) ?_
  refine zA_push rfl rfl zkk7 ?_
  refine zA_ist2 rfl rfl rfl (zset1 (L' := [some (zrv x0), some (zI x1), some (zD (4607182418800017408 : UInt64)), none, some (zI (0 : Int32)), none, none]) rfl rfl (zpcN rfl)) ?_
  exact zA_tr (L := [some (zrv x0), some (zI x1), some (zD (4607182418800017408 : UInt64)), none, some (zI (0 : Int32)), none, none]) rfl rfl (zmS211_4 (zmS211_50) zN0 _ _ _ _ _ _ _ H)
theorem zmE211 (x0 : zq) (x1 : Int32) : zpad (zPr.2.1 211).1 (zil [zrv x0, zI x1]) = [some (zrv x0), some (zI x1), none, none, none, none, none] := by
  simp only [zil_A, zil_I, zil_F, zil_D, zil_N]
  rfl
def zm214_36 (x0 : zq) (x1 : Int32) (s0 : Int32) (h : zH) : zRs Int32 :=
  zob 12 x0 fun p21 i22 =>
  zb (zm211 x0 x1 h) fun x26 h25 =>
  if 0 ≤ (Op.cmpValue (FP.dcmp x26 (4626322717216342016 : UInt64)) .l) then
    some (.inl (2 : Int32), h25)
  else
    if s0 = 0 then
      zb (zm210 x0 x1 h25) fun x30 h29 =>
      if x30 < (20 : Int32) then
        some (.inl (0 : Int32), h29)
      else
        some (.inl (1 : Int32), h29)
    else
      some (.inl (2 : Int32), h25)
theorem zmS214_36 : ∀ (x0 : zq) (x1 : Int32) (s0 : Int32) (h : zH) (r : Int32 ⊕ Nat) (h' : zH), zm214_36 x0 x1 s0 h = some (r, h') → zAt 214 36 [some (zrv x0), some (zI x1), none] [zI s0] h (zoI r) h' := by
  intro x0 x1 s0 h r h' H
  unfold zm214_36 at H
  refine zA_istn2 rfl rfl rfl (zset1 (L' := [some (zrv x0), some (zI x1), some (zI s0)]) rfl rfl (zpcV rfl rfl)) ?_
  refine zA_aldn rfl rfl rfl ?_
  refine zA_ldn rfl rfl rfl ?_
  obtain ⟨p21, i22, e23, c24, H⟩ := zob_e H
  rcases zb_e H with ⟨x26, h25, C, H⟩ | ⟨E, h25, C, H⟩
  · refine zA_callV (as := [zrv x0, zI x1]) (st' := []) rfl rfl rfl (zrcv_Q e23 c24) rfl (zmE211 _ _) rfl (zmS211 C) ?_
    refine zA_push rfl rfl zkk42 ?_
    refine zA_st (st' := [zI (Op.cmpValue (FP.dcmp x26 (4626322717216342016 : UInt64)) .l)]) rfl rfl rfl rfl ?_
    rcases zite_e H with ⟨c27, H⟩ | ⟨c27, H⟩
    · refine zA_brT (c := 0 ≤ (Op.cmpValue (FP.dcmp x26 (4626322717216342016 : UInt64)) .l)) rfl rfl rfl c27 ?_
      refine zA_tr (L := [none, none, none]) rfl rfl ?_
      refine zA_push rfl rfl zkk23 ?_
      refine zA_go rfl rfl ?_
      cases H
      exact zA_ret rfl rfl
    · refine zA_brF (c := 0 ≤ (Op.cmpValue (FP.dcmp x26 (4626322717216342016 : UInt64)) .l)) rfl rfl rfl c27 ?_
      refine zA_ldn rfl rfl rfl ?_
      rcases zite_e H with ⟨c28, H⟩ | ⟨c28, H⟩
      · refine zA_brT (c := s0 = 0) rfl rfl rfl c28 ?_
        refine zA_tr (L := [some (zrv x0), some (zI x1), none]) rfl rfl ?_
        refine zA_aldn rfl rfl rfl ?_
        refine zA_ldn rfl rfl rfl ?_
        rcases zb_e H with ⟨x30, h29, C, H⟩ | ⟨E, h29, C, H⟩
        · refine zA_callV (as := [zrv x0, zI x1]) (st' := []) rfl rfl rfl (zrcv_Q e23 c24) rfl (zmE210 _ _) rfl (zmS210 C) ?_
          refine zA_push rfl rfl zkk16 ?_
          rcases zite_e H with ⟨c31, H⟩ | ⟨c31, H⟩
          · refine zA_brT (c := x30 < (20 : Int32)) rfl rfl rfl c31 ?_
            refine zA_tr (L := [none, none, none]) rfl rfl ?_
            refine zA_push rfl rfl zkk7 ?_
            cases H
            exact zA_ret rfl rfl
          · refine zA_brF (c := x30 < (20 : Int32)) rfl rfl rfl c31 ?_
            refine zA_push rfl rfl zkk5 ?_
            refine zA_go rfl rfl ?_
            refine zA_tr (L := [none, none, none]) rfl rfl ?_
            cases H
            exact zA_ret rfl rfl
        · cases H
          exact zA_callX (as := [zrv x0, zI x1]) (st' := []) rfl rfl (zrcv_Q e23 c24) rfl (zmE210 _ _) rfl rfl rfl (zmS210 C)
      · refine zA_brF (c := s0 = 0) rfl rfl rfl c28 ?_
        refine zA_tr (L := [none, none, none]) rfl rfl ?_
        refine zA_push rfl rfl zkk23 ?_
        refine zA_go rfl rfl ?_
        cases H
        exact zA_ret rfl rfl
  · cases H
    exact zA_callX (as := [zrv x0, zI x1]) (st' := []) rfl rfl (zrcv_Q e23 c24) rfl (zmE211 _ _) rfl rfl rfl (zmS211 C)
-- 214: ReleaseHouseModel.verdictOf(I)I
def zm214 (x0 : zq) (x1 : Int32) (h : zH) : zRs Int32 :=
  zob 12 x0 fun p21 i22 =>
  zri (zr h p21 i22 47) ((2 : Int32) * x1) h fun v32 =>
  if v32 < (10 : Int32) then
    zm214_36 x0 x1 (0 : Int32) h
  else
    zri (zr h p21 i22 47) (((2 : Int32) * x1) + (1 : Int32)) h fun v42 =>
    if v42 < (10 : Int32) then
      zm214_36 x0 x1 (0 : Int32) h
    else
      zb (zm213 x0 (((2 : Int32) * x1) + (1 : Int32)) h) fun x46 h45 =>
      zb (zm213 x0 ((2 : Int32) * x1) h45) fun x48 h47 =>
      if x46 ≤ (x48 + (1 : Int32)) then
        zm214_36 x0 x1 (0 : Int32) h47
      else
        zm214_36 x0 x1 (1 : Int32) h47
theorem zmS214 {x0 : zq} {x1 : Int32} {h : zH} {r : Int32 ⊕ Nat} {h' : zH} (H : zm214 x0 x1 h = some (r, h')) : zAt 214 0 [some (zrv x0), some (zI x1), none] [] h (zoI r) h' := by
  unfold zm214 at H
  refine zA_aldn rfl rfl rfl ?_
  obtain ⟨p21, i22, e23, c24, H⟩ := zob_e H
  refine zA_gf3 rfl rfl e23 c24 ?_
  refine zA_push rfl rfl zkk23 ?_
  refine zA_ldn rfl rfl rfl ?_
  refine zA_st (st' := [zI ((2 : Int32) * x1), zrv (zr h p21 i22 47)]) rfl rfl rfl rfl ?_
  obtain ⟨p25, i26, j27, v32, e28, c29, c30, e31, e33, H⟩ := zri_e H
  refine zA_ial rfl rfl e28 c29 c30 e31 e33 ?_
  refine zA_push rfl rfl zkk27 ?_
  rcases zite_e H with ⟨c34, H⟩ | ⟨c34, H⟩
  · refine zA_brT (c := v32 < (10 : Int32)) rfl rfl rfl c34 ?_
    refine zA_push rfl rfl zkk7 ?_
    exact zA_tr (L := [some (zrv x0), some (zI x1), none]) rfl rfl (zmS214_36 _ _ _ _ _ _ H)
  · refine zA_brF (c := v32 < (10 : Int32)) rfl rfl rfl c34 ?_
    refine zA_aldn rfl rfl rfl ?_
    refine zA_gf3 rfl rfl e23 c24 ?_
    refine zA_push rfl rfl zkk23 ?_
    refine zA_ldn rfl rfl rfl ?_
    refine zA_st (st' := [zI ((2 : Int32) * x1), zrv (zr h p21 i22 47)]) rfl rfl rfl rfl ?_
    refine zA_push rfl rfl zkk5 ?_
    refine zA_st (st' := [zI (((2 : Int32) * x1) + (1 : Int32)), zrv (zr h p21 i22 47)]) rfl rfl rfl rfl ?_
    obtain ⟨p35, i36, j37, v42, e38, c39, c40, e41, e43, H⟩ := zri_e H
    refine zA_ial rfl rfl e38 c39 c40 e41 e43 ?_
    refine zA_push rfl rfl zkk27 ?_
    rcases zite_e H with ⟨c44, H⟩ | ⟨c44, H⟩
    · refine zA_brT (c := v42 < (10 : Int32)) rfl rfl rfl c44 ?_
      refine zA_push rfl rfl zkk7 ?_
      exact zA_tr (L := [some (zrv x0), some (zI x1), none]) rfl rfl (zmS214_36 _ _ _ _ _ _ H)
    · refine zA_brF (c := v42 < (10 : Int32)) rfl rfl rfl c44 ?_
      refine zA_aldn rfl rfl rfl ?_
      refine zA_push rfl rfl zkk23 ?_
      refine zA_ldn rfl rfl rfl ?_
      refine zA_st (st' := [zI ((2 : Int32) * x1), zrv x0]) rfl rfl rfl rfl ?_
      refine zA_push rfl rfl zkk5 ?_
      refine zA_st (st' := [zI (((2 : Int32) * x1) + (1 : Int32)), zrv x0]) rfl rfl rfl rfl ?_
      rcases zb_e H with ⟨x46, h45, C, H⟩ | ⟨E, h45, C, H⟩
      · refine zA_callV (as := [zrv x0, zI (((2 : Int32) * x1) + (1 : Int32))]) (st' := []) rfl rfl rfl (zrcv_Q e23 c24) rfl (zmE213 _ _) rfl (zmS213 C) ?_
        refine zA_aldn rfl rfl rfl ?_
        refine zA_push rfl rfl zkk23 ?_
        refine zA_ldn rfl rfl rfl ?_
        refine zA_st (st' := [zI ((2 : Int32) * x1), zrv x0, zI x46]) rfl rfl rfl rfl ?_
        rcases zb_e H with ⟨x48, h47, C, H⟩ | ⟨E, h47, C, H⟩
        · refine zA_callV (as := [zrv x0, zI ((2 : Int32) * x1)]) (st' := [zI x46]) rfl rfl rfl (zrcv_Q e23 c24) rfl (zmE213 _ _) rfl (zmS213 C) ?_
          refine zA_push rfl rfl zkk5 ?_
          refine zA_st (st' := [zI (x48 + (1 : Int32)), zI x46]) rfl rfl rfl rfl ?_
          rcases zite_e H with ⟨c49, H⟩ | ⟨c49, H⟩
          · refine zA_brT (c := x46 ≤ (x48 + (1 : Int32))) rfl rfl rfl c49 ?_
            refine zA_push rfl rfl zkk7 ?_
            exact zA_tr (L := [some (zrv x0), some (zI x1), none]) rfl rfl (zmS214_36 _ _ _ _ _ _ H)
          · refine zA_brF (c := x46 ≤ (x48 + (1 : Int32))) rfl rfl rfl c49 ?_
            refine zA_push rfl rfl zkk5 ?_
            refine zA_go rfl rfl ?_
            exact zA_tr (L := [some (zrv x0), some (zI x1), none]) rfl rfl (zmS214_36 _ _ _ _ _ _ H)
        · cases H
          exact zA_callX (as := [zrv x0, zI ((2 : Int32) * x1)]) (st' := [zI x46]) rfl rfl (zrcv_Q e23 c24) rfl (zmE213 _ _) rfl rfl rfl (zmS213 C)
      · cases H
        exact zA_callX (as := [zrv x0, zI (((2 : Int32) * x1) + (1 : Int32))]) (st' := []) rfl rfl (zrcv_Q e23 c24) rfl (zmE213 _ _) rfl rfl rfl (zmS213 C)
theorem zmE214 (x0 : zq) (x1 : Int32) : zpad (zPr.2.1 214).1 (zil [zrv x0, zI x1]) = [some (zrv x0), some (zI x1), none] := by
  simp only [zil_A, zil_I, zil_F, zil_D, zil_N]
  rfl
-- 144: ReleaseHouseModel.ringOf(I)I
def zm144 (x0 : Int32) (h : zH) : zRs Int32 :=
  zlet (x0 - x0 / (10 : Int32) * (10 : Int32)) fun x22 =>
  if x22 = 0 then
    some (.inl (0 : Int32), h)
  else
    if (4 : Int32) ≤ x22 then
      some (.inl (2 : Int32), h)
    else
      some (.inl (1 : Int32), h)
theorem zmS144 {x0 : Int32} {h : zH} {r : Int32 ⊕ Nat} {h' : zH} (H : zm144 x0 h = some (r, h')) : zAt 144 0 [some (zI x0), none] [] h (zoI r) h' := by
  unfold zm144 at H
  refine zA_ldn rfl rfl rfl ?_
  refine zA_push rfl rfl zkk27 ?_
  refine zA_rem rfl rfl (by decide) ?_
  obtain ⟨x22, e23, H⟩ := zlet_e H
  refine zA_istn2 rfl rfl e23 (zset1 (L' := [some (zI x0), some (zI x22)]) rfl rfl (zpcV rfl rfl)) ?_
  refine zA_ldn rfl rfl rfl ?_
  rcases zite_e H with ⟨c24, H⟩ | ⟨c24, H⟩
  · refine zA_brF' (c := x22 = 0) rfl rfl rfl c24 ?_
    refine zA_push rfl rfl zkk7 ?_
    refine zA_go rfl rfl ?_
    refine zA_tr (L := [none, none]) rfl rfl ?_
    cases H
    exact zA_ret rfl rfl
  · refine zA_brT' (c := x22 = 0) rfl rfl rfl c24 ?_
    refine zA_tr (L := [none, some (zI x22)]) rfl rfl ?_
    refine zA_ldn rfl rfl rfl ?_
    refine zA_push rfl rfl zkk9 ?_
    rcases zite_e H with ⟨c25, H⟩ | ⟨c25, H⟩
    · refine zA_brT (c := (4 : Int32) ≤ x22) rfl rfl rfl c25 ?_
      refine zA_tr (L := [none, none]) rfl rfl ?_
      refine zA_push rfl rfl zkk23 ?_
      cases H
      exact zA_ret rfl rfl
    · refine zA_brF (c := (4 : Int32) ≤ x22) rfl rfl rfl c25 ?_
      refine zA_push rfl rfl zkk5 ?_
      refine zA_go rfl rfl ?_
      refine zA_tr (L := [none, none]) rfl rfl ?_
      cases H
      exact zA_ret rfl rfl
theorem zmE144 (x0 : Int32) : zpad (zPr.2.1 144).1 (zil [zI x0]) = [some (zI x0), none] := by
  simp only [zil_A, zil_I, zil_F, zil_D, zil_N]
  rfl
def zm170_38 (k4 : zq → Int32 → Int32 → Int32 → Int32 → zH → zRs Int32) (x0 : zq) (x1 : Int32) (x2 : Int32) (x4 : Int32) (s0 : Int32) (h : zH) : zRs Int32 :=
  zlet (x4 + (1 : Int32)) fun x21 =>
  k4 x0 x1 x2 s0 x21 h
theorem zmS170_38 {k4 : zq → Int32 → Int32 → Int32 → Int32 → zH → zRs Int32} (hk4 : ∀ (x0 : zq) (x1 : Int32) (x2 : Int32) (x3 : Int32) (x4 : Int32) (h : zH) (r : Int32 ⊕ Nat) (h' : zH), k4 x0 x1 x2 x3 x4 h = some (r, h') → zAt 170 4 [some (zrv x0), some (zI x1), some (zI x2), some (zI x3), some (zI x4), none] [] h (zoI r) h') : ∀ (x0 : zq) (x1 : Int32) (x2 : Int32) (x4 : Int32) (s0 : Int32) (h : zH) (r : Int32 ⊕ Nat) (h' : zH), zm170_38 k4 x0 x1 x2 x4 s0 h = some (r, h') → zAt 170 38 [some (zrv x0), some (zI x1), some (zI x2), none, some (zI x4), none] [zI s0] h (zoI r) h' := by
  intro x0 x1 x2 x4 s0 h r h' H
  unfold zm170_38 at H
  refine zA_istn2 rfl rfl rfl (zset1 (L' := [some (zrv x0), some (zI x1), some (zI x2), some (zI s0), some (zI x4), none]) rfl rfl (zpcV rfl rfl)) ?_
  obtain ⟨x21, e22, H⟩ := zlet_e H
  refine zA_inc rfl rfl rfl (e22.trans (congrArg (_ + ·) zkk8)) (zset1 (L' := [some (zrv x0), some (zI x1), some (zI x2), some (zI s0), some (zI x21), none]) rfl rfl (zpcV rfl rfl)) ?_
  refine zA_go rfl rfl ?_
  exact zA_tr (L := [some (zrv x0), some (zI x1), some (zI x2), some (zI s0), some (zI x21), none]) rfl rfl (hk4 _ _ _ _ _ _ _ _ H)
def zm170_4 : Nat → zq → Int32 → Int32 → Int32 → Int32 → zH → zRs Int32
  | 0, _, _, _, _, _, _ => none
  | n + 1, x0, x1, x2, x3, x4, h =>
    if (200 : Int32) ≤ x4 then
      zif (x3 = 0 ∨ x3 = 1) <|
      some (.inl x3, h)
    else
      zob 12 x0 fun p23 i24 =>
      zri (zr h p23 i24 18) (((200 : Int32) * x1) + x4) h fun v34 =>
      if x3 = 0 then
        zm170_38 (zm170_4 n) x0 x1 x2 x4 (0 : Int32) h
      else
        zb (zm144 x4 h) fun x38 h37 =>
        if x38 = x2 then
          if v34 = (-1 : Int32) then
            zm170_38 (zm170_4 n) x0 x1 x2 x4 (1 : Int32) h37
          else
            zri (zr h37 p23 i24 12) (((3 : Int32) * x1) + x2) h37 fun v48 =>
            if v34 = v48 then
              zm170_38 (zm170_4 n) x0 x1 x2 x4 (1 : Int32) h37
            else
              zm170_38 (zm170_4 n) x0 x1 x2 x4 (0 : Int32) h37
        else
          zm170_38 (zm170_4 n) x0 x1 x2 x4 (1 : Int32) h37
theorem zmS170_4 : ∀ (n : Nat) (x0 : zq) (x1 : Int32) (x2 : Int32) (x3 : Int32) (x4 : Int32) (h : zH) (r : Int32 ⊕ Nat) (h' : zH), zm170_4 n x0 x1 x2 x3 x4 h = some (r, h') → zAt 170 4 [some (zrv x0), some (zI x1), some (zI x2), some (zI x3), some (zI x4), none] [] h (zoI r) h' := by
  intro n
  induction n with
  | zero => intro x0 x1 x2 x3 x4 h r h' H; cases H
  | succ n ih =>
    intro x0 x1 x2 x3 x4 h r h' H
    unfold zm170_4 at H
    refine zA_ld rfl rfl rfl ?_
    refine zA_push rfl rfl zkk4 ?_
    rcases zite_e H with ⟨c21, H⟩ | ⟨c21, H⟩
    · refine zA_brT (c := (200 : Int32) ≤ x4) rfl rfl rfl c21 ?_
      refine zA_tr (L := [none, none, none, some (zI x3), none, none]) rfl rfl ?_
      refine zA_ldn rfl rfl rfl ?_
      obtain ⟨c22, H⟩ := zif_e H
      cases H
      exact zA_ret rfl (zret_Z c22)
    · refine zA_brF (c := (200 : Int32) ≤ x4) rfl rfl rfl c21 ?_
      refine zA_aldn rfl rfl rfl ?_
      obtain ⟨p23, i24, e25, c26, H⟩ := zob_e H
      refine zA_gf3 rfl rfl e25 c26 ?_
      refine zA_push rfl rfl zkk4 ?_
      refine zA_ldn rfl rfl rfl ?_
      refine zA_st (st' := [zI ((200 : Int32) * x1), zrv (zr h p23 i24 18)]) rfl rfl rfl rfl ?_
      refine zA_ld rfl rfl rfl ?_
      refine zA_st (st' := [zI (((200 : Int32) * x1) + x4), zrv (zr h p23 i24 18)]) rfl rfl rfl rfl ?_
      obtain ⟨p27, i28, j29, v34, e30, c31, c32, e33, e35, H⟩ := zri_e H
      refine zA_ial rfl rfl e30 c31 c32 e33 e35 ?_
      refine zA_ist2 rfl rfl rfl (zset1 (L' := [some (zrv x0), some (zI x1), some (zI x2), some (zI x3), some (zI x4), some (zI v34)]) rfl rfl (zpcV rfl rfl)) ?_
      refine zA_ldn rfl rfl rfl ?_
      rcases zite_e H with ⟨c36, H⟩ | ⟨c36, H⟩
      · refine zA_brT (c := x3 = 0) rfl rfl rfl c36 ?_
        refine zA_tr (L := [some (zrv x0), some (zI x1), some (zI x2), none, some (zI x4), none]) rfl rfl ?_
        refine zA_push rfl rfl zkk7 ?_
        exact zA_tr (L := [some (zrv x0), some (zI x1), some (zI x2), none, some (zI x4), none]) rfl rfl (zmS170_38 ih _ _ _ _ _ _ _ _ H)
      · refine zA_brF (c := x3 = 0) rfl rfl rfl c36 ?_
        refine zA_ld rfl rfl rfl ?_
        rcases zb_e H with ⟨x38, h37, C, H⟩ | ⟨E, h37, C, H⟩
        · refine zA_callV (as := [zI x4]) (st' := []) rfl rfl rfl rfl rfl (zmE144 _) rfl (zmS144 C) ?_
          refine zA_ldn rfl rfl rfl ?_
          rcases zite_e H with ⟨c39, H⟩ | ⟨c39, H⟩
          · refine zA_brF' (c := x38 = x2) rfl rfl rfl c39 ?_
            refine zA_ld rfl rfl rfl ?_
            refine zA_push rfl rfl zkk6 ?_
            rcases zite_e H with ⟨c40, H⟩ | ⟨c40, H⟩
            · refine zA_brT (c := v34 = (-1 : Int32)) rfl rfl rfl c40 ?_
              refine zA_tr (L := [some (zrv x0), some (zI x1), some (zI x2), none, some (zI x4), none]) rfl rfl ?_
              refine zA_push rfl rfl zkk5 ?_
              refine zA_go rfl rfl ?_
              exact zA_tr (L := [some (zrv x0), some (zI x1), some (zI x2), none, some (zI x4), none]) rfl rfl (zmS170_38 ih _ _ _ _ _ _ _ _ H)
            · refine zA_brF (c := v34 = (-1 : Int32)) rfl rfl rfl c40 ?_
              refine zA_ld rfl rfl rfl ?_
              refine zA_aldn rfl rfl rfl ?_
              refine zA_gf3 rfl rfl e25 c26 ?_
              refine zA_push rfl rfl zkk3 ?_
              refine zA_ldn rfl rfl rfl ?_
              refine zA_st (st' := [zI ((3 : Int32) * x1), zrv (zr h37 p23 i24 12), zI v34]) rfl rfl rfl rfl ?_
              refine zA_ldn rfl rfl rfl ?_
              refine zA_st (st' := [zI (((3 : Int32) * x1) + x2), zrv (zr h37 p23 i24 12), zI v34]) rfl rfl rfl rfl ?_
              obtain ⟨p41, i42, j43, v48, e44, c45, c46, e47, e49, H⟩ := zri_e H
              refine zA_ial rfl rfl e44 c45 c46 e47 e49 ?_
              rcases zite_e H with ⟨c50, H⟩ | ⟨c50, H⟩
              · refine zA_brF' (c := v34 = v48) rfl rfl rfl c50 ?_
                refine zA_tr (L := [some (zrv x0), some (zI x1), some (zI x2), none, some (zI x4), none]) rfl rfl ?_
                refine zA_push rfl rfl zkk5 ?_
                refine zA_go rfl rfl ?_
                exact zA_tr (L := [some (zrv x0), some (zI x1), some (zI x2), none, some (zI x4), none]) rfl rfl (zmS170_38 ih _ _ _ _ _ _ _ _ H)
              · refine zA_brT' (c := v34 = v48) rfl rfl rfl c50 ?_
                refine zA_tr (L := [some (zrv x0), some (zI x1), some (zI x2), none, some (zI x4), none]) rfl rfl ?_
                refine zA_push rfl rfl zkk7 ?_
                exact zA_tr (L := [some (zrv x0), some (zI x1), some (zI x2), none, some (zI x4), none]) rfl rfl (zmS170_38 ih _ _ _ _ _ _ _ _ H)
          · refine zA_brT' (c := x38 = x2) rfl rfl rfl c39 ?_
            refine zA_tr (L := [some (zrv x0), some (zI x1), some (zI x2), none, some (zI x4), none]) rfl rfl ?_
            refine zA_push rfl rfl zkk5 ?_
            refine zA_go rfl rfl ?_
            exact zA_tr (L := [some (zrv x0), some (zI x1), some (zI x2), none, some (zI x4), none]) rfl rfl (zmS170_38 ih _ _ _ _ _ _ _ _ H)
        · cases H
          exact zA_callX (as := [zI x4]) (st' := []) rfl rfl rfl rfl (zmE144 _) rfl rfl rfl (zmS144 C)
-- 170: ReleaseHouseModel.isDrained(II)Z
def zm170 (x0 : zq) (x1 : Int32) (x2 : Int32) (h : zH) : zRs Int32 :=
  zm170_4 zN0 x0 x1 x2 (1 : Int32) (0 : Int32) h
theorem zmS170 {x0 : zq} {x1 : Int32} {x2 : Int32} {h : zH} {r : Int32 ⊕ Nat} {h' : zH} (H : zm170 x0 x1 x2 h = some (r, h')) : zAt 170 0 [some (zrv x0), some (zI x1), some (zI x2), none, none, none] [] h (zoI r) h' := by
  unfold zm170 at H
  refine zA_push rfl rfl zkk5 ?_
  refine zA_istn2 rfl rfl rfl (zset1 (L' := [some (zrv x0), some (zI x1), some (zI x2), some (zI (1 : Int32)), none, none]) rfl rfl (zpcV rfl rfl)) ?_
  refine zA_push rfl rfl zkk7 ?_
  refine zA_ist2 rfl rfl rfl (zset1 (L' := [some (zrv x0), some (zI x1), some (zI x2), some (zI (1 : Int32)), some (zI (0 : Int32)), none]) rfl rfl (zpcV rfl rfl)) ?_
  exact zA_tr (L := [some (zrv x0), some (zI x1), some (zI x2), some (zI (1 : Int32)), some (zI (0 : Int32)), none]) rfl rfl (zmS170_4 zN0 _ _ _ _ _ _ _ _ H)
theorem zmE170 (x0 : zq) (x1 : Int32) (x2 : Int32) : zpad (zPr.2.1 170).1 (zil [zrv x0, zI x1, zI x2]) = [some (zrv x0), some (zI x1), some (zI x2), none, none, none] := by
  simp only [zil_A, zil_I, zil_F, zil_D, zil_N]
  rfl
-- 171: ReleaseHouseModel.reason(I)I
def zm171 (x0 : zq) (x1 : Int32) (h : zH) : zRs Int32 :=
  zob 12 x0 fun p21 i22 =>
  zri (zr h p21 i22 31) x1 h fun v32 =>
  zri (zr h p21 i22 32) x1 h fun v41 =>
  zri (zr h p21 i22 34) x1 h fun v50 =>
  zlet (((10 : Int32) * v41) + v50) fun x52 =>
  zri (zr h p21 i22 28) x52 h fun v61 =>
  zri (zr h p21 i22 27) x52 h fun v70 =>
  if v70.toInt < 0 ∨ 5 < v70.toInt then
    zri (zr h p21 i22 3) v32 h fun v80 =>
    zb (zm170 x0 v80 v61 h) fun x83 h82 =>
    if x83 = 0 then
      some (.inl (12 : Int32), h82)
    else
      some (.inl (0 : Int32), h82)
  else if v70 = (0 : Int32) then
    zri (zr h p21 i22 29) x52 h fun v162 =>
    zb (zm169 x0 x1 v61 (1 : Int32) v162 h) fun x165 h164 =>
    some (.inl x165, h164)
  else if v70 = (1 : Int32) then
    zri (zr h p21 i22 35) x1 h fun v151 =>
    if v61 ≤ ((zi h p21 i22 1) - v151) then
      some (.inl (0 : Int32), h)
    else
      some (.inl (8 : Int32), h)
  else if v70 = (2 : Int32) then
    zri (zr h p21 i22 3) v32 h fun v119 =>
    zri (zr h p21 i22 13) (((3 : Int32) * v119) + v61) h fun v128 =>
    if v128 = v32 then
      zri (zr h p21 i22 3) v32 h fun v138 =>
      zb (zm214 x0 (((3 : Int32) * v138) + v61) h) fun x141 h140 =>
      if x141 = 0 then
        some (.inl (9 : Int32), h140)
      else
        some (.inl (0 : Int32), h140)
    else
      some (.inl (9 : Int32), h)
  else if v70 = (3 : Int32) then
    zri (zr h p21 i22 36) x1 h fun v106 =>
    zb (zm159 v106 h) fun x109 h108 =>
    if v61 ≤ x109 then
      some (.inl (0 : Int32), h108)
    else
      some (.inl (10 : Int32), h108)
  else if v70 = (4 : Int32) then
    zb (zm169 x0 x1 v61 (0 : Int32) (0 : Int32) h) fun x97 h96 =>
    some (.inl x97, h96)
  else if v70 = (5 : Int32) then
    zrb (zr h p21 i22 37) x1 h fun v92 =>
    if v92 = 0 then
      some (.inl (11 : Int32), h)
    else
      some (.inl (0 : Int32), h)
  else none
theorem zmS171 {x0 : zq} {x1 : Int32} {h : zH} {r : Int32 ⊕ Nat} {h' : zH} (H : zm171 x0 x1 h = some (r, h')) : zAt 171 0 [some (zrv x0), some (zI x1), none, none, none] [] h (zoI r) h' := by
  unfold zm171 at H
  refine zA_aldn rfl rfl rfl ?_
  obtain ⟨p21, i22, e23, c24, H⟩ := zob_e H
  refine zA_gf3 rfl rfl e23 c24 ?_
  refine zA_ldn rfl rfl rfl ?_
  obtain ⟨p25, i26, j27, v32, e28, c29, c30, e31, e33, H⟩ := zri_e H
  refine zA_ial rfl rfl e28 c29 c30 e31 e33 ?_
  refine zA_istn2 rfl rfl rfl (zset1 (L' := [some (zrv x0), some (zI x1), some (zI v32), none, none]) rfl rfl (zpcV rfl rfl)) ?_
  refine zA_push rfl rfl zkk27 ?_
  refine zA_aldn rfl rfl rfl ?_
  refine zA_gf3 rfl rfl e23 c24 ?_
  refine zA_ldn rfl rfl rfl ?_
  obtain ⟨p34, i35, j36, v41, e37, c38, c39, e40, e42, H⟩ := zri_e H
  refine zA_ial rfl rfl e37 c38 c39 e40 e42 ?_
  refine zA_st (st' := [zI ((10 : Int32) * v41)]) rfl rfl rfl rfl ?_
  refine zA_aldn rfl rfl rfl ?_
  refine zA_gf3 rfl rfl e23 c24 ?_
  refine zA_ldn rfl rfl rfl ?_
  obtain ⟨p43, i44, j45, v50, e46, c47, c48, e49, e51, H⟩ := zri_e H
  refine zA_ial rfl rfl e46 c47 c48 e49 e51 ?_
  refine zA_st (st' := [zI (((10 : Int32) * v41) + v50)]) rfl rfl rfl rfl ?_
  obtain ⟨x52, e53, H⟩ := zlet_e H
  refine zA_istn2 rfl rfl e53 (zset1 (L' := [some (zrv x0), some (zI x1), some (zI v32), some (zI x52), none]) rfl rfl (zpcV rfl rfl)) ?_
  refine zA_aldn rfl rfl rfl ?_
  refine zA_gf3 rfl rfl e23 c24 ?_
  refine zA_ldn rfl rfl rfl ?_
  obtain ⟨p54, i55, j56, v61, e57, c58, c59, e60, e62, H⟩ := zri_e H
  refine zA_ial rfl rfl e57 c58 c59 e60 e62 ?_
  refine zA_ist2 rfl rfl rfl (zset1 (L' := [some (zrv x0), some (zI x1), some (zI v32), some (zI x52), some (zI v61)]) rfl rfl (zpcV rfl rfl)) ?_
  refine zA_aldn rfl rfl rfl ?_
  refine zA_gf3 rfl rfl e23 c24 ?_
  refine zA_ldn rfl rfl rfl ?_
  obtain ⟨p63, i64, j65, v70, e66, c67, c68, e69, e71, H⟩ := zri_e H
  refine zA_ial rfl rfl e66 c67 c68 e69 e71 ?_
  rcases zite_e H with ⟨c72, H⟩ | ⟨c72, H⟩
  · refine zA_swD rfl rfl c72 ?_
    refine zA_tr (L := [some (zrv x0), none, some (zI v32), none, some (zI v61)]) rfl rfl ?_
    refine zA_aldn rfl rfl rfl ?_
    refine zA_aldn rfl rfl rfl ?_
    refine zA_gf3 rfl rfl e23 c24 ?_
    refine zA_ldn rfl rfl rfl ?_
    obtain ⟨p73, i74, j75, v80, e76, c77, c78, e79, e81, H⟩ := zri_e H
    refine zA_ial rfl rfl e76 c77 c78 e79 e81 ?_
    refine zA_ld rfl rfl rfl ?_
    rcases zb_e H with ⟨x83, h82, C, H⟩ | ⟨E, h82, C, H⟩
    · refine zA_callV (as := [zrv x0, zI v80, zI v61]) (st' := []) rfl rfl rfl (zrcv_Q e23 c24) rfl (zmE170 _ _ _) rfl (zmS170 C) ?_
      rcases zite_e H with ⟨c84, H⟩ | ⟨c84, H⟩
      · refine zA_brT (c := x83 = 0) rfl rfl rfl c84 ?_
        refine zA_tr (L := [none, none, none, none, none]) rfl rfl ?_
        refine zA_push rfl rfl zkk11 ?_
        cases H
        exact zA_ret rfl rfl
      · refine zA_brF (c := x83 = 0) rfl rfl rfl c84 ?_
        refine zA_push rfl rfl zkk7 ?_
        refine zA_go rfl rfl ?_
        refine zA_tr (L := [none, none, none, none, none]) rfl rfl ?_
        cases H
        exact zA_ret rfl rfl
    · cases H
      exact zA_callX (as := [zrv x0, zI v80, zI v61]) (st' := []) rfl rfl (zrcv_Q e23 c24) rfl (zmE170 _ _ _) rfl rfl rfl (zmS170 C)
  · rcases zite_e H with ⟨c166, H⟩ | ⟨c166, H⟩
    · refine zA_swT (j := 0) (t := 27) rfl rfl c72 (by rw [c166]; decide) rfl ?_
      refine zA_tr (L := [some (zrv x0), some (zI x1), none, some (zI x52), some (zI v61)]) rfl rfl ?_
      refine zA_aldn rfl rfl rfl ?_
      refine zA_ldn rfl rfl rfl ?_
      refine zA_ld rfl rfl rfl ?_
      refine zA_push rfl rfl zkk5 ?_
      refine zA_aldn rfl rfl rfl ?_
      refine zA_gf3 rfl rfl e23 c24 ?_
      refine zA_ldn rfl rfl rfl ?_
      obtain ⟨p155, i156, j157, v162, e158, c159, c160, e161, e163, H⟩ := zri_e H
      refine zA_ial rfl rfl e158 c159 c160 e161 e163 ?_
      rcases zb_e H with ⟨x165, h164, C, H⟩ | ⟨E, h164, C, H⟩
      · refine zA_callV (as := [zrv x0, zI x1, zI v61, zI (1 : Int32), zI v162]) (st' := []) rfl rfl rfl (zrcv_Q e23 c24) rfl (zmE169 _ _ _ _ _) rfl (zmS169 C) ?_
        cases H
        exact zA_ret rfl rfl
      · cases H
        exact zA_callX (as := [zrv x0, zI x1, zI v61, zI (1 : Int32), zI v162]) (st' := []) rfl rfl (zrcv_Q e23 c24) rfl (zmE169 _ _ _ _ _) rfl rfl rfl (zmS169 C)
    · rcases zite_e H with ⟨c154, H⟩ | ⟨c154, H⟩
      · refine zA_swT (j := 1) (t := 44) rfl rfl c72 (by rw [c154]; decide) rfl ?_
        refine zA_tr (L := [some (zrv x0), some (zI x1), none, none, some (zI v61)]) rfl rfl ?_
        refine zA_aldn rfl rfl rfl ?_
        refine zA_gf0 rfl rfl (Or.inl rfl) e23 c24 ?_
        refine zA_aldn rfl rfl rfl ?_
        refine zA_gf3 rfl rfl e23 c24 ?_
        refine zA_ldn rfl rfl rfl ?_
        obtain ⟨p144, i145, j146, v151, e147, c148, c149, e150, e152, H⟩ := zri_e H
        refine zA_ial rfl rfl e147 c148 c149 e150 e152 ?_
        refine zA_st (st' := [zI ((zi h p21 i22 1) - v151)]) rfl rfl rfl rfl ?_
        refine zA_ld rfl rfl rfl ?_
        rcases zite_e H with ⟨c153, H⟩ | ⟨c153, H⟩
        · refine zA_brT (c := v61 ≤ ((zi h p21 i22 1) - v151)) rfl rfl rfl c153 ?_
          refine zA_tr (L := [none, none, none, none, none]) rfl rfl ?_
          refine zA_push rfl rfl zkk7 ?_
          cases H
          exact zA_ret rfl rfl
        · refine zA_brF (c := v61 ≤ ((zi h p21 i22 1) - v151)) rfl rfl rfl c153 ?_
          refine zA_push rfl rfl zkk0 ?_
          refine zA_go rfl rfl ?_
          refine zA_tr (L := [none, none, none, none, none]) rfl rfl ?_
          cases H
          exact zA_ret rfl rfl
      · rcases zite_e H with ⟨c143, H⟩ | ⟨c143, H⟩
        · refine zA_swT (j := 2) (t := 57) rfl rfl c72 (by rw [c143]; decide) rfl ?_
          refine zA_tr (L := [some (zrv x0), none, some (zI v32), none, some (zI v61)]) rfl rfl ?_
          refine zA_aldn rfl rfl rfl ?_
          refine zA_gf3 rfl rfl e23 c24 ?_
          refine zA_push rfl rfl zkk3 ?_
          refine zA_aldn rfl rfl rfl ?_
          refine zA_gf3 rfl rfl e23 c24 ?_
          refine zA_ldn rfl rfl rfl ?_
          obtain ⟨p112, i113, j114, v119, e115, c116, c117, e118, e120, H⟩ := zri_e H
          refine zA_ial rfl rfl e115 c116 c117 e118 e120 ?_
          refine zA_st (st' := [zI ((3 : Int32) * v119), zrv (zr h p21 i22 13)]) rfl rfl rfl rfl ?_
          refine zA_ld rfl rfl rfl ?_
          refine zA_st (st' := [zI (((3 : Int32) * v119) + v61), zrv (zr h p21 i22 13)]) rfl rfl rfl rfl ?_
          obtain ⟨p121, i122, j123, v128, e124, c125, c126, e127, e129, H⟩ := zri_e H
          refine zA_ial rfl rfl e124 c125 c126 e127 e129 ?_
          refine zA_ldn rfl rfl rfl ?_
          rcases zite_e H with ⟨c130, H⟩ | ⟨c130, H⟩
          · refine zA_brF' (c := v128 = v32) rfl rfl rfl c130 ?_
            refine zA_aldn rfl rfl rfl ?_
            refine zA_push rfl rfl zkk3 ?_
            refine zA_aldn rfl rfl rfl ?_
            refine zA_gf3 rfl rfl e23 c24 ?_
            refine zA_ldn rfl rfl rfl ?_
            obtain ⟨p131, i132, j133, v138, e134, c135, c136, e137, e139, H⟩ := zri_e H
            refine zA_ial rfl rfl e134 c135 c136 e137 e139 ?_
            refine zA_st (st' := [zI ((3 : Int32) * v138), zrv x0]) rfl rfl rfl rfl ?_
            refine zA_ld rfl rfl rfl ?_
            refine zA_st (st' := [zI (((3 : Int32) * v138) + v61), zrv x0]) rfl rfl rfl rfl ?_
            rcases zb_e H with ⟨x141, h140, C, H⟩ | ⟨E, h140, C, H⟩
            · refine zA_callV (as := [zrv x0, zI (((3 : Int32) * v138) + v61)]) (st' := []) rfl rfl rfl (zrcv_Q e23 c24) rfl (zmE214 _ _) rfl (zmS214 C) ?_
              rcases zite_e H with ⟨c142, H⟩ | ⟨c142, H⟩
              · refine zA_brF' (c := x141 = 0) rfl rfl rfl c142 ?_
                refine zA_tr (L := [none, none, none, none, none]) rfl rfl ?_
                refine zA_push rfl rfl zkk19 ?_
                refine zA_go rfl rfl ?_
                cases H
                exact zA_ret rfl rfl
              · refine zA_brT' (c := x141 = 0) rfl rfl rfl c142 ?_
                refine zA_tr (L := [none, none, none, none, none]) rfl rfl ?_
                refine zA_push rfl rfl zkk7 ?_
                cases H
                exact zA_ret rfl rfl
            · cases H
              exact zA_callX (as := [zrv x0, zI (((3 : Int32) * v138) + v61)]) (st' := []) rfl rfl (zrcv_Q e23 c24) rfl (zmE214 _ _) rfl rfl rfl (zmS214 C)
          · refine zA_brT' (c := v128 = v32) rfl rfl rfl c130 ?_
            refine zA_tr (L := [none, none, none, none, none]) rfl rfl ?_
            refine zA_push rfl rfl zkk19 ?_
            refine zA_go rfl rfl ?_
            cases H
            exact zA_ret rfl rfl
        · rcases zite_e H with ⟨c111, H⟩ | ⟨c111, H⟩
          · refine zA_swT (j := 3) (t := 85) rfl rfl c72 (by rw [c111]; decide) rfl ?_
            refine zA_tr (L := [some (zrv x0), some (zI x1), none, none, some (zI v61)]) rfl rfl ?_
            refine zA_aldn rfl rfl rfl ?_
            refine zA_gf3 rfl rfl e23 c24 ?_
            refine zA_ldn rfl rfl rfl ?_
            obtain ⟨p99, i100, j101, v106, e102, c103, c104, e105, e107, H⟩ := zri_e H
            refine zA_ial rfl rfl e102 c103 c104 e105 e107 ?_
            rcases zb_e H with ⟨x109, h108, C, H⟩ | ⟨E, h108, C, H⟩
            · refine zA_callV (as := [zI v106]) (st' := []) rfl rfl rfl rfl rfl (zmE159 _) rfl (zmS159 C) ?_
              refine zA_ld rfl rfl rfl ?_
              rcases zite_e H with ⟨c110, H⟩ | ⟨c110, H⟩
              · refine zA_brT (c := v61 ≤ x109) rfl rfl rfl c110 ?_
                refine zA_tr (L := [none, none, none, none, none]) rfl rfl ?_
                refine zA_push rfl rfl zkk7 ?_
                cases H
                exact zA_ret rfl rfl
              · refine zA_brF (c := v61 ≤ x109) rfl rfl rfl c110 ?_
                refine zA_push rfl rfl zkk27 ?_
                refine zA_go rfl rfl ?_
                refine zA_tr (L := [none, none, none, none, none]) rfl rfl ?_
                cases H
                exact zA_ret rfl rfl
            · cases H
              exact zA_callX (as := [zI v106]) (st' := []) rfl rfl rfl rfl (zmE159 _) rfl rfl rfl (zmS159 C)
          · rcases zite_e H with ⟨c98, H⟩ | ⟨c98, H⟩
            · refine zA_swT (j := 4) (t := 37) rfl rfl c72 (by rw [c98]; decide) rfl ?_
              refine zA_tr (L := [some (zrv x0), some (zI x1), none, none, some (zI v61)]) rfl rfl ?_
              refine zA_aldn rfl rfl rfl ?_
              refine zA_ldn rfl rfl rfl ?_
              refine zA_ld rfl rfl rfl ?_
              refine zA_push rfl rfl zkk7 ?_
              refine zA_push rfl rfl zkk7 ?_
              rcases zb_e H with ⟨x97, h96, C, H⟩ | ⟨E, h96, C, H⟩
              · refine zA_callV (as := [zrv x0, zI x1, zI v61, zI (0 : Int32), zI (0 : Int32)]) (st' := []) rfl rfl rfl (zrcv_Q e23 c24) rfl (zmE169 _ _ _ _ _) rfl (zmS169 C) ?_
                cases H
                exact zA_ret rfl rfl
              · cases H
                exact zA_callX (as := [zrv x0, zI x1, zI v61, zI (0 : Int32), zI (0 : Int32)]) (st' := []) rfl rfl (zrcv_Q e23 c24) rfl (zmE169 _ _ _ _ _) rfl rfl rfl (zmS169 C)
            · rcases zite_e H with ⟨c95, H⟩ | ⟨c95, H⟩
              · refine zA_swT (j := 5) (t := 96) rfl rfl c72 (by rw [c95]; decide) rfl ?_
                refine zA_tr (L := [some (zrv x0), some (zI x1), none, none, none]) rfl rfl ?_
                refine zA_aldn rfl rfl rfl ?_
                refine zA_gf3 rfl rfl e23 c24 ?_
                refine zA_ldn rfl rfl rfl ?_
                obtain ⟨p85, i86, j87, v92, e88, c89, c90, e91, e93, H⟩ := zrb_e H
                refine zA_bal rfl rfl e88 c89 c90 e91 e93 ?_
                rcases zite_e H with ⟨c94, H⟩ | ⟨c94, H⟩
                · refine zA_brT (c := v92 = 0) rfl rfl rfl c94 ?_
                  refine zA_tr (L := [none, none, none, none, none]) rfl rfl ?_
                  refine zA_push rfl rfl zkk38 ?_
                  cases H
                  exact zA_ret rfl rfl
                · refine zA_brF (c := v92 = 0) rfl rfl rfl c94 ?_
                  refine zA_push rfl rfl zkk7 ?_
                  refine zA_go rfl rfl ?_
                  refine zA_tr (L := [none, none, none, none, none]) rfl rfl ?_
                  cases H
                  exact zA_ret rfl rfl
              · cases H
theorem zmE171 (x0 : zq) (x1 : Int32) : zpad (zPr.2.1 171).1 (zil [zrv x0, zI x1]) = [some (zrv x0), some (zI x1), none, none, none] := by
  simp only [zil_A, zil_I, zil_F, zil_D, zil_N]
  rfl
-- 172: ReleaseHouseModel.why(I)I
def zm172 (x0 : zq) (x1 : Int32) (h : zH) : zRs Int32 :=
  zob 12 x0 fun p21 i22 =>
  zb (zm143 x0 x1 h) fun x26 h25 =>
  if x26 = 0 then
    zb (zm138 x0 (1 : Int32) h25) fun x29 h28 =>
    some (.inl x29, h28)
  else
    zlet (zsi h25 p21 i22 0 (0 : Int32)) fun h30 =>
    zb (zm156 x0 x1 h30) fun x33 h32 =>
    if x33 = 0 then
      if (zi h32 p21 i22 43) = 0 then
        zri (zr h32 p21 i22 33) x1 h32 fun v43 =>
        if v43 = (1 : Int32) then
          some (.inl (1 : Int32), h32)
        else
          zb (zm171 x0 x1 h32) fun x47 h46 =>
          some (.inl x47, h46)
      else
        some (.inl (13 : Int32), h32)
    else
      some (.inl (14 : Int32), h32)
theorem zmS172 {x0 : zq} {x1 : Int32} {h : zH} {r : Int32 ⊕ Nat} {h' : zH} (H : zm172 x0 x1 h = some (r, h')) : zAt 172 0 [some (zrv x0), some (zI x1)] [] h (zoI r) h' := by
  unfold zm172 at H
  refine zA_aldn rfl rfl rfl ?_
  refine zA_ldn rfl rfl rfl ?_
  obtain ⟨p21, i22, e23, c24, H⟩ := zob_e H
  rcases zb_e H with ⟨x26, h25, C, H⟩ | ⟨E, h25, C, H⟩
  · refine zA_callV (as := [zrv x0, zI x1]) (st' := []) rfl rfl rfl (zrcv_Q e23 c24) rfl (zmE143 _ _) rfl (zmS143 C) ?_
    rcases zite_e H with ⟨c27, H⟩ | ⟨c27, H⟩
    · refine zA_brF' (c := x26 = 0) rfl rfl rfl c27 ?_
      refine zA_aldn rfl rfl rfl ?_
      refine zA_push rfl rfl zkk5 ?_
      rcases zb_e H with ⟨x29, h28, C, H⟩ | ⟨E, h28, C, H⟩
      · refine zA_callV (as := [zrv x0, zI (1 : Int32)]) (st' := []) rfl rfl rfl (zrcv_Q e23 c24) rfl (zmE138 _ _) rfl (zmS138 C) ?_
        cases H
        exact zA_ret rfl rfl
      · cases H
        exact zA_callX (as := [zrv x0, zI (1 : Int32)]) (st' := []) rfl rfl (zrcv_Q e23 c24) rfl (zmE138 _ _) rfl rfl rfl (zmS138 C)
    · refine zA_brT' (c := x26 = 0) rfl rfl rfl c27 ?_
      refine zA_aldn rfl rfl rfl ?_
      refine zA_push rfl rfl zkk7 ?_
      obtain ⟨h30, e31, H⟩ := zlet_e H
      refine zA_pf0 rfl rfl e23 c24 e31 ?_
      refine zA_aldn rfl rfl rfl ?_
      refine zA_ldn rfl rfl rfl ?_
      rcases zb_e H with ⟨x33, h32, C, H⟩ | ⟨E, h32, C, H⟩
      · refine zA_callV (as := [zrv x0, zI x1]) (st' := []) rfl rfl rfl (zrcv_Q e23 c24) rfl (zmE156 _ _) rfl (zmS156 C) ?_
        rcases zite_e H with ⟨c34, H⟩ | ⟨c34, H⟩
        · refine zA_brT (c := x33 = 0) rfl rfl rfl c34 ?_
          refine zA_aldn rfl rfl rfl ?_
          refine zA_gf0 rfl rfl (Or.inr rfl) e23 c24 ?_
          rcases zite_e H with ⟨c35, H⟩ | ⟨c35, H⟩
          · refine zA_brT (c := (zi h32 p21 i22 43) = 0) rfl rfl rfl c35 ?_
            refine zA_aldn rfl rfl rfl ?_
            refine zA_gf3 rfl rfl e23 c24 ?_
            refine zA_ldn rfl rfl rfl ?_
            obtain ⟨p36, i37, j38, v43, e39, c40, c41, e42, e44, H⟩ := zri_e H
            refine zA_ial rfl rfl e39 c40 c41 e42 e44 ?_
            refine zA_push rfl rfl zkk5 ?_
            rcases zite_e H with ⟨c45, H⟩ | ⟨c45, H⟩
            · refine zA_brF' (c := v43 = (1 : Int32)) rfl rfl rfl c45 ?_
              refine zA_push rfl rfl zkk5 ?_
              refine zA_go rfl rfl ?_
              refine zA_tr (L := [none, none]) rfl rfl ?_
              cases H
              exact zA_ret rfl rfl
            · refine zA_brT' (c := v43 = (1 : Int32)) rfl rfl rfl c45 ?_
              refine zA_aldn rfl rfl rfl ?_
              refine zA_ldn rfl rfl rfl ?_
              rcases zb_e H with ⟨x47, h46, C, H⟩ | ⟨E, h46, C, H⟩
              · refine zA_callV (as := [zrv x0, zI x1]) (st' := []) rfl rfl rfl (zrcv_Q e23 c24) rfl (zmE171 _ _) rfl (zmS171 C) ?_
                refine zA_tr (L := [none, none]) rfl rfl ?_
                cases H
                exact zA_ret rfl rfl
              · cases H
                exact zA_callX (as := [zrv x0, zI x1]) (st' := []) rfl rfl (zrcv_Q e23 c24) rfl (zmE171 _ _) rfl rfl rfl (zmS171 C)
          · refine zA_brF (c := (zi h32 p21 i22 43) = 0) rfl rfl rfl c35 ?_
            refine zA_push rfl rfl zkk39 ?_
            refine zA_go rfl rfl ?_
            refine zA_tr (L := [none, none]) rfl rfl ?_
            cases H
            exact zA_ret rfl rfl
        · refine zA_brF (c := x33 = 0) rfl rfl rfl c34 ?_
          refine zA_push rfl rfl zkk40 ?_
          refine zA_go rfl rfl ?_
          refine zA_tr (L := [none, none]) rfl rfl ?_
          cases H
          exact zA_ret rfl rfl
      · cases H
        exact zA_callX (as := [zrv x0, zI x1]) (st' := []) rfl rfl (zrcv_Q e23 c24) rfl (zmE156 _ _) rfl rfl rfl (zmS156 C)
  · cases H
    exact zA_callX (as := [zrv x0, zI x1]) (st' := []) rfl rfl (zrcv_Q e23 c24) rfl (zmE143 _ _) rfl rfl rfl (zmS143 C)
theorem zmE172 (x0 : zq) (x1 : Int32) : zpad (zPr.2.1 172).1 (zil [zrv x0, zI x1]) = [some (zrv x0), some (zI x1)] := by
  simp only [zil_A, zil_I, zil_F, zil_D, zil_N]
  rfl
def zm26_36 (k2 : zq → Int32 → zH → zRs Unit) (x0 : zq) (x1 : Int32) (h : zH) : zRs Unit :=
  zlet (x1 + (1 : Int32)) fun x21 =>
  k2 x0 x21 h
theorem zmS26_36 {k2 : zq → Int32 → zH → zRs Unit} (hk2 : ∀ (x0 : zq) (x1 : Int32) (h : zH) (r : Unit ⊕ Nat) (h' : zH), k2 x0 x1 h = some (r, h') → zAt 26 2 [some (zrv x0), some (zI x1), none] [] h (zoU r) h') : ∀ (x0 : zq) (x1 : Int32) (h : zH) (r : Unit ⊕ Nat) (h' : zH), zm26_36 k2 x0 x1 h = some (r, h') → zAt 26 36 [some (zrv x0), some (zI x1), none] [] h (zoU r) h' := by
  intro x0 x1 h r h' H
  unfold zm26_36 at H
  obtain ⟨x21, e22, H⟩ := zlet_e H
  refine zA_inc rfl rfl rfl (e22.trans (congrArg (_ + ·) zkk8)) (zset1 (L' := [some (zrv x0), some (zI x21), none]) rfl rfl (zpcV rfl (zcat_rv _))) ?_
  refine zA_go rfl rfl ?_
  exact zA_tr (L := [some (zrv x0), some (zI x21), none]) rfl rfl (hk2 _ _ _ _ _ H)
def zm26_23 (k2 : zq → Int32 → zH → zRs Unit) (x0 : zq) (x1 : Int32) (x2 : zq) (h : zH) : zRs Unit :=
  zob 9 x2 fun p21 i22 =>
  if (zr h p21 i22 1) = none then
    zm26_36 k2 x0 x1 h
  else
    zob 8 x0 fun p26 i27 =>
    zob 0 (zr h p21 i22 1) fun p30 i31 =>
    zri (zr h p26 i27 1) (zi h p30 i31 7) h fun v41 =>
    zar 1 (zr h p26 i27 1) (zi h p30 i31 7) h fun p43 i44 j45 =>
    zlet (zsi h p43 i44 j45 (v41 + (1 : Int32))) fun h50 =>
    zm26_36 k2 x0 x1 h50
theorem zmS26_23 {k2 : zq → Int32 → zH → zRs Unit} (hk2 : ∀ (x0 : zq) (x1 : Int32) (h : zH) (r : Unit ⊕ Nat) (h' : zH), k2 x0 x1 h = some (r, h') → zAt 26 2 [some (zrv x0), some (zI x1), none] [] h (zoU r) h') : ∀ (x0 : zq) (x1 : Int32) (x2 : zq) (h : zH) (r : Unit ⊕ Nat) (h' : zH), zm26_23 k2 x0 x1 x2 h = some (r, h') → zAt 26 23 [some (zrv x0), some (zI x1), some (zrv x2)] [] h (zoU r) h' := by
  intro x0 x1 x2 h r h' H
  unfold zm26_23 at H
  refine zA_aldn rfl rfl rfl ?_
  obtain ⟨p21, i22, e23, c24, H⟩ := zob_e H
  refine zA_gf3 rfl rfl e23 c24 ?_
  rcases zite_e H with ⟨c25, H⟩ | ⟨c25, H⟩
  · refine zA_brT (c := (zr h p21 i22 1) = none) rfl rfl zIf_null c25 ?_
    exact zA_tr (L := [some (zrv x0), some (zI x1), none]) rfl rfl (zmS26_36 hk2 _ _ _ _ _ H)
  · refine zA_brF (c := (zr h p21 i22 1) = none) rfl rfl zIf_null c25 ?_
    refine zA_aldn rfl rfl rfl ?_
    obtain ⟨p26, i27, e28, c29, H⟩ := zob_e H
    refine zA_gf3 rfl rfl e28 c29 ?_
    refine zA_aldn rfl rfl rfl ?_
    refine zA_gf3 rfl rfl e23 c24 ?_
    obtain ⟨p30, i31, e32, c33, H⟩ := zob_e H
    refine zA_gf0 rfl rfl (Or.inl rfl) e32 c33 ?_
    refine zA_dup2 rfl rfl rfl (zcat_rv _) ?_
    obtain ⟨p34, i35, j36, v41, e37, c38, c39, e40, e42, H⟩ := zri_e H
    refine zA_ial rfl rfl e37 c38 c39 e40 e42 ?_
    refine zA_push rfl rfl zkk5 ?_
    refine zA_st (st' := [zI (v41 + (1 : Int32)), zI (zi h p30 i31 7), zrv (zr h p26 i27 1)]) rfl rfl rfl rfl ?_
    obtain ⟨p43, i44, j45, e46, c47, c48, e49, H⟩ := zar_e H
    obtain ⟨h50, e51, H⟩ := zlet_e H
    refine zA_ias rfl rfl e46 c47 c48 e49 e51 ?_
    exact zA_tr (L := [some (zrv x0), some (zI x1), none]) rfl rfl (zmS26_36 hk2 _ _ _ _ _ H)
def zm26_2 (k38 : zq → zH → zRs Unit) : Nat → zq → Int32 → zH → zRs Unit
  | 0, _, _, _ => none
  | n + 1, x0, x1, h =>
    if (3 : Int32) ≤ x1 then
      k38 x0 h
    else
      zob 8 x0 fun p22 i23 =>
      zra (zr h p22 i23 0) x1 h fun v33 =>
      zob 9 v33 fun p35 i36 =>
      if (zr h p35 i36 0) = none then
        zm26_23 (zm26_2 k38 n) x0 x1 v33 h
      else
        zob 0 (zr h p35 i36 0) fun p40 i41 =>
        zri (zr h p22 i23 1) (zi h p40 i41 7) h fun v51 =>
        zar 1 (zr h p22 i23 1) (zi h p40 i41 7) h fun p53 i54 j55 =>
        zlet (zsi h p53 i54 j55 (v51 + (1 : Int32))) fun h60 =>
        zm26_23 (zm26_2 k38 n) x0 x1 v33 h60
theorem zmS26_2 {k38 : zq → zH → zRs Unit} (hk38 : ∀ (x0 : zq) (h : zH) (r : Unit ⊕ Nat) (h' : zH), k38 x0 h = some (r, h') → zAt 26 38 [some (zrv x0), none, none] [] h (zoU r) h') : ∀ (n : Nat) (x0 : zq) (x1 : Int32) (h : zH) (r : Unit ⊕ Nat) (h' : zH), zm26_2 k38 n x0 x1 h = some (r, h') → zAt 26 2 [some (zrv x0), some (zI x1), none] [] h (zoU r) h' := by
  intro n
  induction n with
  | zero => intro x0 x1 h r h' H; cases H
  | succ n ih =>
    intro x0 x1 h r h' H
    unfold zm26_2 at H
    refine zA_ldn rfl rfl rfl ?_
    refine zA_push rfl rfl zkk3 ?_
    rcases zite_e H with ⟨c21, H⟩ | ⟨c21, H⟩
    · refine zA_brT (c := (3 : Int32) ≤ x1) rfl rfl rfl c21 ?_
      exact zA_tr (L := [some (zrv x0), none, none]) rfl rfl (hk38 _ _ _ _ H)
    · refine zA_brF (c := (3 : Int32) ≤ x1) rfl rfl rfl c21 ?_
      refine zA_aldn rfl rfl rfl ?_
      obtain ⟨p22, i23, e24, c25, H⟩ := zob_e H
      refine zA_gf3 rfl rfl e24 c25 ?_
      refine zA_ldn rfl rfl rfl ?_
      obtain ⟨p26, i27, j28, v33, e29, c30, c31, e32, e34, H⟩ := zra_e H
      refine zA_aal rfl rfl e29 c30 c31 e32 e34 ?_
      refine zA_astn2 rfl rfl rfl (zset1 (L' := [some (zrv x0), some (zI x1), some (zrv v33)]) (zcat_rv _) rfl (zpcV rfl rfl)) ?_
      refine zA_aldn rfl rfl rfl ?_
      obtain ⟨p35, i36, e37, c38, H⟩ := zob_e H
      refine zA_gf3 rfl rfl e37 c38 ?_
      rcases zite_e H with ⟨c39, H⟩ | ⟨c39, H⟩
      · refine zA_brT (c := (zr h p35 i36 0) = none) rfl rfl zIf_null c39 ?_
        exact zA_tr (L := [some (zrv x0), some (zI x1), some (zrv v33)]) rfl rfl (zmS26_23 ih _ _ _ _ _ _ H)
      · refine zA_brF (c := (zr h p35 i36 0) = none) rfl rfl zIf_null c39 ?_
        refine zA_aldn rfl rfl rfl ?_
        refine zA_gf3 rfl rfl e24 c25 ?_
        refine zA_aldn rfl rfl rfl ?_
        refine zA_gf3 rfl rfl e37 c38 ?_
        obtain ⟨p40, i41, e42, c43, H⟩ := zob_e H
        refine zA_gf0 rfl rfl (Or.inl rfl) e42 c43 ?_
        refine zA_dup2 rfl rfl rfl (zcat_rv _) ?_
        obtain ⟨p44, i45, j46, v51, e47, c48, c49, e50, e52, H⟩ := zri_e H
        refine zA_ial rfl rfl e47 c48 c49 e50 e52 ?_
        refine zA_push rfl rfl zkk5 ?_
        refine zA_st (st' := [zI (v51 + (1 : Int32)), zI (zi h p40 i41 7), zrv (zr h p22 i23 1)]) rfl rfl rfl rfl ?_
        obtain ⟨p53, i54, j55, e56, c57, c58, e59, H⟩ := zar_e H
        obtain ⟨h60, e61, H⟩ := zlet_e H
        refine zA_ias rfl rfl e56 c57 c58 e59 e61 ?_
        exact zA_tr (L := [some (zrv x0), some (zI x1), some (zrv v33)]) rfl rfl (zmS26_23 ih _ _ _ _ _ _ H)
def zm26_38 (x0 : zq) (h : zH) : zRs Unit :=
  zob 8 x0 fun p21 i22 =>
  if (zi h p21 i22 4) = (-1 : Int32) then
    some (.inl (), h)
  else
    if (zi h p21 i22 5) = (-1 : Int32) then
      some (.inl (), h)
    else
      zri (zr h p21 i22 1) (zi h p21 i22 4) h fun v34 =>
      zlet (if v34 < (5 : Int32) then v34 else (5 : Int32)) fun x36 =>
      zri (zr h p21 i22 1) (zi h p21 i22 4) h fun v45 =>
      zar 1 (zr h p21 i22 1) (zi h p21 i22 4) h fun p47 i48 j49 =>
      zlet (zsi h p47 i48 j49 (v45 - x36)) fun h54 =>
      zri (zr h54 p21 i22 1) (zi h54 p21 i22 5) h54 fun v63 =>
      zar 1 (zr h54 p21 i22 1) (zi h54 p21 i22 5) h54 fun p65 i66 j67 =>
      zlet (zsi h54 p65 i66 j67 (v63 + x36)) fun h72 =>
      zlet (zsi h72 p21 i22 6 ((zi h72 p21 i22 6) + x36)) fun h74 =>
      some (.inl (), h74)
theorem zmS26_38 : ∀ (x0 : zq) (h : zH) (r : Unit ⊕ Nat) (h' : zH), zm26_38 x0 h = some (r, h') → zAt 26 38 [some (zrv x0), none, none] [] h (zoU r) h' := by
  intro x0 h r h' H
  unfold zm26_38 at H
  refine zA_aldn rfl rfl rfl ?_
  obtain ⟨p21, i22, e23, c24, H⟩ := zob_e H
  refine zA_gf0 rfl rfl (Or.inl rfl) e23 c24 ?_
  refine zA_push rfl rfl zkk6 ?_
  rcases zite_e H with ⟨c25, H⟩ | ⟨c25, H⟩
  · refine zA_brT (c := (zi h p21 i22 4) = (-1 : Int32)) rfl rfl rfl c25 ?_
    refine zA_tr (L := [none, none, none]) rfl rfl ?_
    cases H
    exact zA_ret rfl rfl
  · refine zA_brF (c := (zi h p21 i22 4) = (-1 : Int32)) rfl rfl rfl c25 ?_
    refine zA_aldn rfl rfl rfl ?_
    refine zA_gf0 rfl rfl (Or.inl rfl) e23 c24 ?_
    refine zA_push rfl rfl zkk6 ?_
    rcases zite_e H with ⟨c26, H⟩ | ⟨c26, H⟩
    · refine zA_brT (c := (zi h p21 i22 5) = (-1 : Int32)) rfl rfl rfl c26 ?_
      refine zA_tr (L := [none, none, none]) rfl rfl ?_
      cases H
      exact zA_ret rfl rfl
    · refine zA_brF (c := (zi h p21 i22 5) = (-1 : Int32)) rfl rfl rfl c26 ?_
      refine zA_push rfl rfl zkk20 ?_
      refine zA_aldn rfl rfl rfl ?_
      refine zA_gf3 rfl rfl e23 c24 ?_
      refine zA_aldn rfl rfl rfl ?_
      refine zA_gf0 rfl rfl (Or.inl rfl) e23 c24 ?_
      obtain ⟨p27, i28, j29, v34, e30, c31, c32, e33, e35, H⟩ := zri_e H
      refine zA_ial rfl rfl e30 c31 c32 e33 e35 ?_
      refine zA_l6 rfl rfl rfl ?_
      obtain ⟨x36, e37, H⟩ := zlet_e H
      refine zA_istn2 rfl rfl e37 (zset1 (L' := [some (zrv x0), some (zI x36), none]) rfl rfl (zpcV rfl (zcat_rv _))) ?_
      refine zA_aldn rfl rfl rfl ?_
      refine zA_gf3 rfl rfl e23 c24 ?_
      refine zA_aldn rfl rfl rfl ?_
      refine zA_gf0 rfl rfl (Or.inl rfl) e23 c24 ?_
      refine zA_dup2 rfl rfl rfl (zcat_rv _) ?_
      obtain ⟨p38, i39, j40, v45, e41, c42, c43, e44, e46, H⟩ := zri_e H
      refine zA_ial rfl rfl e41 c42 c43 e44 e46 ?_
      refine zA_ldn rfl rfl rfl ?_
      refine zA_st (st' := [zI (v45 - x36), zI (zi h p21 i22 4), zrv (zr h p21 i22 1)]) rfl rfl rfl rfl ?_
      obtain ⟨p47, i48, j49, e50, c51, c52, e53, H⟩ := zar_e H
      obtain ⟨h54, e55, H⟩ := zlet_e H
      refine zA_ias rfl rfl e50 c51 c52 e53 e55 ?_
      refine zA_aldn rfl rfl rfl ?_
      refine zA_gf3 rfl rfl e23 c24 ?_
      refine zA_aldn rfl rfl rfl ?_
      refine zA_gf0 rfl rfl (Or.inl rfl) e23 c24 ?_
      refine zA_dup2 rfl rfl rfl (zcat_rv _) ?_
      obtain ⟨p56, i57, j58, v63, e59, c60, c61, e62, e64, H⟩ := zri_e H
      refine zA_ial rfl rfl e59 c60 c61 e62 e64 ?_
      refine zA_ldn rfl rfl rfl ?_
      refine zA_st (st' := [zI (v63 + x36), zI (zi h54 p21 i22 5), zrv (zr h54 p21 i22 1)]) rfl rfl rfl rfl ?_
      obtain ⟨p65, i66, j67, e68, c69, c70, e71, H⟩ := zar_e H
      obtain ⟨h72, e73, H⟩ := zlet_e H
      refine zA_ias rfl rfl e68 c69 c70 e71 e73 ?_
      refine zA_aldn rfl rfl rfl ?_
      refine zA_dup rfl rfl (zcat_rv _) ?_
      refine zA_gf0 rfl rfl (Or.inl rfl) e23 c24 ?_
      refine zA_ldn rfl rfl rfl ?_
      refine zA_st (st' := [zI ((zi h72 p21 i22 6) + x36), zrv x0]) rfl rfl rfl rfl ?_
      obtain ⟨h74, e75, H⟩ := zlet_e H
      refine zA_pf0 rfl rfl e23 c24 e75 ?_
      refine zA_tr (L := [none, none, none]) rfl rfl ?_
      cases H
      exact zA_ret rfl rfl
-- 26: ReleaseHouse$Service.growData()V
def zm26 (x0 : zq) (h : zH) : zRs Unit :=
  zm26_2 (zm26_38) zN0 x0 (0 : Int32) h
theorem zmS26 {x0 : zq} {h : zH} {r : Unit ⊕ Nat} {h' : zH} (H : zm26 x0 h = some (r, h')) : zAt 26 0 [some (zrv x0), none, none] [] h (zoU r) h' := by
  unfold zm26 at H
  refine zA_push rfl rfl zkk7 ?_
  refine zA_istn2 rfl rfl rfl (zset1 (L' := [some (zrv x0), some (zI (0 : Int32)), none]) rfl rfl (zpcV rfl (zcat_rv _))) ?_
  exact zA_tr (L := [some (zrv x0), some (zI (0 : Int32)), none]) rfl rfl (zmS26_2 (zmS26_38) zN0 _ _ _ _ _ H)
theorem zmE26 (x0 : zq) : zpad (zPr.2.1 26).1 (zil [zrv x0]) = [some (zrv x0), none, none] := by
  simp only [zil_A, zil_I, zil_F, zil_D, zil_N]
  rfl
def zm75_39 (k5 : zq → zq → Int32 → zH → zRs Unit) (x0 : zq) (x1 : zq) (x2 : Int32) (h : zH) : zRs Unit :=
  zlet (x2 + (1 : Int32)) fun x21 =>
  k5 x0 x1 x21 h
theorem zmS75_39 {k5 : zq → zq → Int32 → zH → zRs Unit} (hk5 : ∀ (x0 : zq) (x1 : zq) (x2 : Int32) (h : zH) (r : Unit ⊕ Nat) (h' : zH), k5 x0 x1 x2 h = some (r, h') → zAt 75 5 [some (zrv x0), some (zrv x1), some (zI x2), none] [] h (zoU r) h') : ∀ (x0 : zq) (x1 : zq) (x2 : Int32) (h : zH) (r : Unit ⊕ Nat) (h' : zH), zm75_39 k5 x0 x1 x2 h = some (r, h') → zAt 75 39 [some (zrv x0), some (zrv x1), some (zI x2), none] [] h (zoU r) h' := by
  intro x0 x1 x2 h r h' H
  unfold zm75_39 at H
  obtain ⟨x21, e22, H⟩ := zlet_e H
  refine zA_inc rfl rfl rfl (e22.trans (congrArg (_ + ·) zkk8)) (zset1 (L' := [some (zrv x0), some (zrv x1), some (zI x21), none]) rfl rfl (zpcV rfl (zcat_rv _))) ?_
  refine zA_go rfl rfl ?_
  exact zA_tr (L := [some (zrv x0), some (zrv x1), some (zI x21), none]) rfl rfl (hk5 _ _ _ _ _ _ H)
def zm75_5 : Nat → zq → zq → Int32 → zH → zRs Unit
  | 0, _, _, _, _ => none
  | n + 1, x0, x1, x2, h =>
    zob 11 x0 fun p21 i22 =>
    zlz (zr h p21 i22 2) h fun v30 =>
    if v30 ≤ x2 then
      some (.inl (), h)
    else
      zlg (zr h p21 i22 2) x2 h fun v39 =>
      zob 5 v39 fun p41 i42 =>
      if (zr h p41 i42 7) = x1 then
        zlet (zsr h p41 i42 7 (none : zq)) fun h46 =>
        if (zi h46 p41 i42 2) = 0 then
          zb (zm12 v39 h46) fun x50 h49 =>
          if x50 = (5 : Int32) then
            zlet (zsi h49 p41 i42 8 (1 : Int32)) fun h52 =>
            zob 10 x1 fun p54 i55 =>
            zlet (zsi h52 p54 i55 1 ((zi h52 p54 i55 1) + (1 : Int32))) fun h58 =>
            zm75_39 (zm75_5 n) x0 x1 x2 h58
          else
            zm75_39 (zm75_5 n) x0 x1 x2 h49
        else
          zm75_39 (zm75_5 n) x0 x1 x2 h46
      else
        zm75_39 (zm75_5 n) x0 x1 x2 h
theorem zmS75_5 : ∀ (n : Nat) (x0 : zq) (x1 : zq) (x2 : Int32) (h : zH) (r : Unit ⊕ Nat) (h' : zH), zm75_5 n x0 x1 x2 h = some (r, h') → zAt 75 5 [some (zrv x0), some (zrv x1), some (zI x2), none] [] h (zoU r) h' := by
  intro n
  induction n with
  | zero => intro x0 x1 x2 h r h' H; cases H
  | succ n ih =>
    intro x0 x1 x2 h r h' H
    unfold zm75_5 at H
    refine zA_ldn rfl rfl rfl ?_
    refine zA_aldn rfl rfl rfl ?_
    obtain ⟨p21, i22, e23, c24, H⟩ := zob_e H
    refine zA_gf3 rfl rfl e23 c24 ?_
    obtain ⟨p25, i26, v30, e27, c28, c29, e31, H⟩ := zlz_e H
    refine zA_l2 rfl rfl rfl e27 c28 c29 e31 ?_
    rcases zite_e H with ⟨c32, H⟩ | ⟨c32, H⟩
    · refine zA_brT (c := v30 ≤ x2) rfl rfl rfl c32 ?_
      refine zA_tr (L := [none, none, none, none]) rfl rfl ?_
      cases H
      exact zA_ret rfl rfl
    · refine zA_brF (c := v30 ≤ x2) rfl rfl rfl c32 ?_
      refine zA_aldn rfl rfl rfl ?_
      refine zA_gf3 rfl rfl e23 c24 ?_
      refine zA_ldn rfl rfl rfl ?_
      obtain ⟨p33, i34, v39, e35, c36, c37, c38, e40, H⟩ := zlg_e H
      refine zA_l3 rfl rfl rfl e35 c36 c37 c38 e40 ?_
      obtain ⟨p41, i42, e43, c44, H⟩ := zob_e H
      refine zA_cast rfl rfl e43 c44 ?_
      refine zA_astn2 rfl rfl rfl (zset1 (L' := [some (zrv x0), some (zrv x1), some (zI x2), some (zrv v39)]) (zcat_rv _) rfl (zpcV rfl rfl)) ?_
      refine zA_aldn rfl rfl rfl ?_
      refine zA_gf3 rfl rfl e43 c44 ?_
      refine zA_aldn rfl rfl rfl ?_
      rcases zite_e H with ⟨c45, H⟩ | ⟨c45, H⟩
      · refine zA_brF' (c := (zr h p41 i42 7) = x1) rfl rfl zIf_ane c45 ?_
        refine zA_aldn rfl rfl rfl ?_
        refine zA_push rfl rfl zkk26 ?_
        obtain ⟨h46, e47, H⟩ := zlet_e H
        refine zA_pf3 rfl rfl e43 c44 e47 ?_
        refine zA_aldn rfl rfl rfl ?_
        refine zA_gf0 rfl rfl (Or.inl rfl) e43 c44 ?_
        rcases zite_e H with ⟨c48, H⟩ | ⟨c48, H⟩
        · refine zA_brF' (c := (zi h46 p41 i42 2) = 0) rfl rfl rfl c48 ?_
          refine zA_aldn rfl rfl rfl ?_
          rcases zb_e H with ⟨x50, h49, C, H⟩ | ⟨E, h49, C, H⟩
          · refine zA_callV (as := [zrv v39]) (st' := []) rfl rfl rfl (zrcv_Q e43 c44) rfl (zmE12 _) rfl (zmS12 C) ?_
            refine zA_push rfl rfl zkk20 ?_
            rcases zite_e H with ⟨c51, H⟩ | ⟨c51, H⟩
            · refine zA_brF' (c := x50 = (5 : Int32)) rfl rfl rfl c51 ?_
              refine zA_aldn rfl rfl rfl ?_
              refine zA_push rfl rfl zkk5 ?_
              obtain ⟨h52, e53, H⟩ := zlet_e H
              refine zA_pf1 rfl rfl e43 c44 (by decide) e53 ?_
              refine zA_aldn rfl rfl rfl ?_
              refine zA_dup rfl rfl (zcat_rv _) ?_
              obtain ⟨p54, i55, e56, c57, H⟩ := zob_e H
              refine zA_gf0 rfl rfl (Or.inl rfl) e56 c57 ?_
              refine zA_push rfl rfl zkk5 ?_
              refine zA_st (st' := [zI ((zi h52 p54 i55 1) + (1 : Int32)), zrv x1]) rfl rfl rfl rfl ?_
              obtain ⟨h58, e59, H⟩ := zlet_e H
              refine zA_pf0 rfl rfl e56 c57 e59 ?_
              exact zA_tr (L := [some (zrv x0), some (zrv x1), some (zI x2), none]) rfl rfl (zmS75_39 ih _ _ _ _ _ _ H)
            · refine zA_brT' (c := x50 = (5 : Int32)) rfl rfl rfl c51 ?_
              exact zA_tr (L := [some (zrv x0), some (zrv x1), some (zI x2), none]) rfl rfl (zmS75_39 ih _ _ _ _ _ _ H)
          · cases H
            exact zA_callX (as := [zrv v39]) (st' := []) rfl rfl (zrcv_Q e43 c44) rfl (zmE12 _) rfl rfl rfl (zmS12 C)
        · refine zA_brT' (c := (zi h46 p41 i42 2) = 0) rfl rfl rfl c48 ?_
          exact zA_tr (L := [some (zrv x0), some (zrv x1), some (zI x2), none]) rfl rfl (zmS75_39 ih _ _ _ _ _ _ H)
      · refine zA_brT' (c := (zr h p41 i42 7) = x1) rfl rfl zIf_ane c45 ?_
        exact zA_tr (L := [some (zrv x0), some (zrv x1), some (zI x2), none]) rfl rfl (zmS75_39 ih _ _ _ _ _ _ H)
-- 75: ReleaseHouse.leaveWith(LReleaseHouse$Train;)V
def zm75 (x0 : zq) (x1 : zq) (h : zH) : zRs Unit :=
  zob 10 x1 fun p21 i22 =>
  zlet (zsi h p21 i22 1 (0 : Int32)) fun h25 =>
  zm75_5 zN0 x0 x1 (0 : Int32) h25
theorem zmS75 {x0 : zq} {x1 : zq} {h : zH} {r : Unit ⊕ Nat} {h' : zH} (H : zm75 x0 x1 h = some (r, h')) : zAt 75 0 [some (zrv x0), some (zrv x1), none, none] [] h (zoU r) h' := by
  unfold zm75 at H
  refine zA_aldn rfl rfl rfl ?_
  refine zA_push rfl rfl zkk7 ?_
  obtain ⟨p21, i22, e23, c24, H⟩ := zob_e H
  obtain ⟨h25, e26, H⟩ := zlet_e H
  refine zA_pf0 rfl rfl e23 c24 e26 ?_
  refine zA_push rfl rfl zkk7 ?_
  refine zA_istn2 rfl rfl rfl (zset1 (L' := [some (zrv x0), some (zrv x1), some (zI (0 : Int32)), none]) rfl rfl (zpcV rfl (zcat_rv _))) ?_
  exact zA_tr (L := [some (zrv x0), some (zrv x1), some (zI (0 : Int32)), none]) rfl rfl (zmS75_5 zN0 _ _ _ _ _ _ H)
theorem zmE75 (x0 : zq) (x1 : zq) : zpad (zPr.2.1 75).1 (zil [zrv x0, zrv x1]) = [some (zrv x0), some (zrv x1), none, none] := by
  simp only [zil_A, zil_I, zil_F, zil_D, zil_N]
  rfl
def zm74_21 (k2 : zq → Int32 → zH → zRs Unit) (x0 : zq) (x1 : Int32) (h : zH) : zRs Unit :=
  zlet (x1 + (1 : Int32)) fun x21 =>
  k2 x0 x21 h
theorem zmS74_21 {k2 : zq → Int32 → zH → zRs Unit} (hk2 : ∀ (x0 : zq) (x1 : Int32) (h : zH) (r : Unit ⊕ Nat) (h' : zH), k2 x0 x1 h = some (r, h') → zAt 74 2 [some (zrv x0), some (zI x1), none] [] h (zoU r) h') : ∀ (x0 : zq) (x1 : Int32) (h : zH) (r : Unit ⊕ Nat) (h' : zH), zm74_21 k2 x0 x1 h = some (r, h') → zAt 74 21 [some (zrv x0), some (zI x1), none] [] h (zoU r) h' := by
  intro x0 x1 h r h' H
  unfold zm74_21 at H
  obtain ⟨x21, e22, H⟩ := zlet_e H
  refine zA_inc rfl rfl rfl (e22.trans (congrArg (_ + ·) zkk8)) (zset1 (L' := [some (zrv x0), some (zI x21), none]) rfl rfl (zpcV rfl (zcat_rv _))) ?_
  refine zA_go rfl rfl ?_
  exact zA_tr (L := [some (zrv x0), some (zI x21), none]) rfl rfl (hk2 _ _ _ _ _ H)
def zm74_2 : Nat → zq → Int32 → zH → zRs Unit
  | 0, _, _, _ => none
  | n + 1, x0, x1, h =>
    zob 11 x0 fun p21 i22 =>
    zlz (zr h p21 i22 4) h fun v30 =>
    if v30 ≤ x1 then
      some (.inl (), h)
    else
      zlg (zr h p21 i22 4) x1 h fun v39 =>
      zob 10 v39 fun p41 i42 =>
      if (zi h p41 i42 0) = (zi h p21 i22 11) then
        zb (zm75 x0 v39 h) fun _ h46 =>
        zm74_21 (zm74_2 n) x0 x1 h46
      else
        zm74_21 (zm74_2 n) x0 x1 h
theorem zmS74_2 : ∀ (n : Nat) (x0 : zq) (x1 : Int32) (h : zH) (r : Unit ⊕ Nat) (h' : zH), zm74_2 n x0 x1 h = some (r, h') → zAt 74 2 [some (zrv x0), some (zI x1), none] [] h (zoU r) h' := by
  intro n
  induction n with
  | zero => intro x0 x1 h r h' H; cases H
  | succ n ih =>
    intro x0 x1 h r h' H
    unfold zm74_2 at H
    refine zA_ldn rfl rfl rfl ?_
    refine zA_aldn rfl rfl rfl ?_
    obtain ⟨p21, i22, e23, c24, H⟩ := zob_e H
    refine zA_gf3 rfl rfl e23 c24 ?_
    obtain ⟨p25, i26, v30, e27, c28, c29, e31, H⟩ := zlz_e H
    refine zA_l2 rfl rfl rfl e27 c28 c29 e31 ?_
    rcases zite_e H with ⟨c32, H⟩ | ⟨c32, H⟩
    · refine zA_brT (c := v30 ≤ x1) rfl rfl rfl c32 ?_
      refine zA_tr (L := [none, none, none]) rfl rfl ?_
      cases H
      exact zA_ret rfl rfl
    · refine zA_brF (c := v30 ≤ x1) rfl rfl rfl c32 ?_
      refine zA_aldn rfl rfl rfl ?_
      refine zA_gf3 rfl rfl e23 c24 ?_
      refine zA_ldn rfl rfl rfl ?_
      obtain ⟨p33, i34, v39, e35, c36, c37, c38, e40, H⟩ := zlg_e H
      refine zA_l3 rfl rfl rfl e35 c36 c37 c38 e40 ?_
      obtain ⟨p41, i42, e43, c44, H⟩ := zob_e H
      refine zA_cast rfl rfl e43 c44 ?_
      refine zA_astn2 rfl rfl rfl (zset1 (L' := [some (zrv x0), some (zI x1), some (zrv v39)]) (zcat_rv _) rfl (zpcV rfl rfl)) ?_
      refine zA_aldn rfl rfl rfl ?_
      refine zA_gf0 rfl rfl (Or.inl rfl) e43 c44 ?_
      refine zA_aldn rfl rfl rfl ?_
      refine zA_gf0 rfl rfl (Or.inl rfl) e23 c24 ?_
      rcases zite_e H with ⟨c45, H⟩ | ⟨c45, H⟩
      · refine zA_brF' (c := (zi h p41 i42 0) = (zi h p21 i22 11)) rfl rfl rfl c45 ?_
        refine zA_aldn rfl rfl rfl ?_
        refine zA_aldn rfl rfl rfl ?_
        rcases zb_e H with ⟨u47, h46, C, H⟩ | ⟨E, h46, C, H⟩
        · refine zA_callU (as := [zrv x0, zrv v39]) (st' := []) rfl rfl rfl (zrcv_Q e23 c24) rfl (zmE75 _ _) rfl (zmS75 C) ?_
          exact zA_tr (L := [some (zrv x0), some (zI x1), none]) rfl rfl (zmS74_21 ih _ _ _ _ _ H)
        · cases H
          exact zA_callX (as := [zrv x0, zrv v39]) (st' := []) rfl rfl (zrcv_Q e23 c24) rfl (zmE75 _ _) rfl rfl rfl (zmS75 C)
      · refine zA_brT' (c := (zi h p41 i42 0) = (zi h p21 i22 11)) rfl rfl rfl c45 ?_
        exact zA_tr (L := [some (zrv x0), some (zI x1), none]) rfl rfl (zmS74_21 ih _ _ _ _ _ H)
-- 74: ReleaseHouse.leaveWithTrains()V
def zm74 (x0 : zq) (h : zH) : zRs Unit :=
  zm74_2 zN0 x0 (0 : Int32) h
theorem zmS74 {x0 : zq} {h : zH} {r : Unit ⊕ Nat} {h' : zH} (H : zm74 x0 h = some (r, h')) : zAt 74 0 [some (zrv x0), none, none] [] h (zoU r) h' := by
  unfold zm74 at H
  refine zA_push rfl rfl zkk7 ?_
  refine zA_istn2 rfl rfl rfl (zset1 (L' := [some (zrv x0), some (zI (0 : Int32)), none]) rfl rfl (zpcV rfl (zcat_rv _))) ?_
  exact zA_tr (L := [some (zrv x0), some (zI (0 : Int32)), none]) rfl rfl (zmS74_2 zN0 _ _ _ _ _ H)
theorem zmE74 (x0 : zq) : zpad (zPr.2.1 74).1 (zil [zrv x0]) = [some (zrv x0), none, none] := by
  simp only [zil_A, zil_I, zil_F, zil_D, zil_N]
  rfl
/-- a reference, or none, is written to a place of an array of references -/
def zaw {α : Type} (q w : zq) (x : Int32) (h : zH) (f : Nat → Nat → Nat → Option α) : Option α := match w with
  | none => zar 5 q x h f
  | some (k2, i2) => zas q (some (k2, i2)) x h fun k i _ _ j => f k i j
theorem zaw_e {α : Type} {q w : zq} {x : Int32} {h : zH} {f : Nat → Nat → Nat → Option α} {r : α} (H : zaw q w x h f = some r) : ∃ k i j, q = some (k, i) ∧ ((w = none ∧ (ztg k == 5) = true) ∨ ∃ k2 i2, w = some (k2, i2) ∧ (ztg k == 5 && ztg k2 == 0 && zkc k == zkc k2) = true) ∧ ¬ (x < 0 ∨ zln h k i ≤ j) ∧ j = x.toNatClampNeg ∧ f k i j = some r := by
  cases w with
  | none =>
    obtain ⟨k, i, j, e1, e2, e3, e4, H⟩ := zar_e (t := 5) (q := q) (x := x) (h := h) (f := f) H
    exact ⟨k, i, j, e1, Or.inl ⟨rfl, e2⟩, e3, e4, H⟩
  | some w =>
    obtain ⟨k2', i2'⟩ := w
    obtain ⟨k, i, k2, i2, j, e1, e2, e3, e4, e5, H⟩ := zas_e (q := q) (w := some (k2', i2')) (x := x) (h := h) H
    exact ⟨k, i, j, e1, Or.inr ⟨k2, i2, e2, e3⟩, e4, e5, H⟩
theorem zA_aaw {mi pc : Nat} {L : zLs} {st : List zV} {h h1 h' : zH} {o : zO} {b : Nat} {ks : List Bool} {a : List Nat} {q w : zq} {k i : Nat} {x : Int32} (hf : zfetch mi pc = some ((.aastore, b), (6 :: a, ks))) (hL : ztr ks L = L) (e : q = some (k, i)) (hc : (w = none ∧ (ztg k == 5) = true) ∨ ∃ k2 i2, w = some (k2, i2) ∧ (ztg k == 5 && ztg k2 == 0 && zkc k == zkc k2) = true) {j : Nat} (hx : ¬ (x < 0 ∨ zln h k i ≤ j)) (hj : j = x.toNatClampNeg) (hh : h1 = zsr h k i j w) (H : zAt mi (pc + 1) L st h1 o h') : zAt mi pc L (zrv w :: zI x :: zrv q :: st) h o h' := by
  rcases hc with ⟨rfl, hc⟩ | ⟨k2, i2, e2, hc⟩
  · exact zA_aasN hf hL e hc hx hj hh H
  · exact zA_aas hf hL e e2 hc hx hj (by rw [hh, e2]) H
def zm79_26 (x1 : zq) (x2 : Int32) (x3 : Int32) (x4 : zq) (x5 : zq) (h : zH) : zRs Unit :=
  if x3 ≤ 0 then
    zob 5 x1 fun p22 i23 =>
    zar 2 (zr h p22 i23 9) x2 h fun p26 i27 j28 =>
    zlet (zsi h p26 i27 j28 (1 : Int32)) fun h33 =>
    zob 9 x5 fun p35 i36 =>
    zaw (zr h33 p22 i23 10) (zr h33 p35 i36 0) x2 h33 fun p39 i40 j41 =>
    zlet (zsr h33 p39 i40 j41 (zr h33 p35 i36 0)) fun h46 =>
    zb (zm29 x5 x4 (none : zq) (0 : Int32) h46) fun _ h51 =>
    some (.inl (), h51)
  else
    zob 9 x5 fun p53 i54 =>
    zb (zm29 x5 (zr h p53 i54 0) x4 x3 h) fun _ h57 =>
    some (.inl (), h57)
theorem zmS79_26 : ∀ (x1 : zq) (x2 : Int32) (x3 : Int32) (x4 : zq) (x5 : zq) (h : zH) (r : Unit ⊕ Nat) (h' : zH), zm79_26 x1 x2 x3 x4 x5 h = some (r, h') → zAt 79 26 [none, some (zrv x1), some (zI x2), some (zI x3), some (zrv x4), some (zrv x5), none] [] h (zoU r) h' := by
  intro x1 x2 x3 x4 x5 h r h' H
  unfold zm79_26 at H
  refine zA_ldn rfl rfl rfl ?_
  rcases zite_e H with ⟨c21, H⟩ | ⟨c21, H⟩
  · refine zA_brT (c := x3 ≤ 0) rfl rfl rfl c21 ?_
    refine zA_tr (L := [none, some (zrv x1), some (zI x2), none, some (zrv x4), some (zrv x5), none]) rfl rfl ?_
    refine zA_aldn rfl rfl rfl ?_
    obtain ⟨p22, i23, e24, c25, H⟩ := zob_e H
    refine zA_gf3 rfl rfl e24 c25 ?_
    refine zA_ldn rfl rfl rfl ?_
    refine zA_push rfl rfl zkk5 ?_
    obtain ⟨p26, i27, j28, e29, c30, c31, e32, H⟩ := zar_e H
    obtain ⟨h33, e34, H⟩ := zlet_e H
    refine zA_bas rfl rfl e29 c30 c31 e32 (by decide) e34 ?_
    refine zA_aldn rfl rfl rfl ?_
    refine zA_gf3 rfl rfl e24 c25 ?_
    refine zA_ldn rfl rfl rfl ?_
    refine zA_ald rfl rfl rfl ?_
    obtain ⟨p35, i36, e37, c38, H⟩ := zob_e H
    refine zA_gf3 rfl rfl e37 c38 ?_
    obtain ⟨p39, i40, j41, e42, c43, c44, e45, H⟩ := zaw_e H
    obtain ⟨h46, e47, H⟩ := zlet_e H
    refine zA_aaw rfl rfl e42 c43 c44 e45 e47 ?_
    refine zA_ald rfl rfl rfl ?_
    refine zA_ald rfl rfl rfl ?_
    refine zA_push rfl rfl zkk26 ?_
    refine zA_push rfl rfl zkk7 ?_
    rcases zb_e H with ⟨u52, h51, C, H⟩ | ⟨E, h51, C, H⟩
    · refine zA_callU (as := [zrv x5, zrv x4, zrv (none : zq), zI (0 : Int32)]) (st' := []) rfl rfl rfl (zrcv_Q e37 c38) rfl (zmE29 _ _ _ _) rfl (zmS29 C) ?_
      refine zA_tr (L := [none, none, none, none, none, none, none]) rfl rfl ?_
      cases H
      exact zA_ret rfl rfl
    · cases H
      exact zA_callX (as := [zrv x5, zrv x4, zrv (none : zq), zI (0 : Int32)]) (st' := []) rfl rfl (zrcv_Q e37 c38) rfl (zmE29 _ _ _ _) rfl rfl rfl (zmS29 C)
  · refine zA_brF (c := x3 ≤ 0) rfl rfl rfl c21 ?_
    refine zA_ald rfl rfl rfl ?_
    refine zA_ald rfl rfl rfl ?_
    obtain ⟨p53, i54, e55, c56, H⟩ := zob_e H
    refine zA_gf3 rfl rfl e55 c56 ?_
    refine zA_ald rfl rfl rfl ?_
    refine zA_ldn rfl rfl rfl ?_
    rcases zb_e H with ⟨u58, h57, C, H⟩ | ⟨E, h57, C, H⟩
    · refine zA_callU (as := [zrv x5, zrv (zr h p53 i54 0), zrv x4, zI x3]) (st' := []) rfl rfl rfl (zrcv_Q e55 c56) rfl (zmE29 _ _ _ _) rfl (zmS29 C) ?_
      refine zA_go rfl rfl ?_
      refine zA_tr (L := [none, none, none, none, none, none, none]) rfl rfl ?_
      cases H
      exact zA_ret rfl rfl
    · cases H
      exact zA_callX (as := [zrv x5, zrv (zr h p53 i54 0), zrv x4, zI x3]) (st' := []) rfl rfl (zrcv_Q e55 c56) rfl (zmE29 _ _ _ _) rfl rfl rfl (zmS29 C)
-- 79: ReleaseHouse.put(LReleaseHouse$Release;II)V
def zm79 (x0 : zq) (x1 : zq) (x2 : Int32) (x3 : Int32) (h : zH) : zRs Unit :=
  zob 5 x1 fun p21 i22 =>
  zlet (zr h p21 i22 0) fun x25 =>
  zob 11 x0 fun p27 i28 =>
  zob 0 x25 fun p31 i32 =>
  zra (zr h p27 i28 6) (zi h p31 i32 1) h fun v42 =>
  zob 8 v42 fun p44 i45 =>
  zra (zr h p44 i45 0) x2 h fun v55 =>
  zb (zm66 x0 x25 v55 h) fun x58 h57 =>
  if x58 = none then
    zm79_26 x1 x2 x3 x25 v55 h57
  else
    zob 5 x58 fun p60 i61 =>
    zlet (zsi h57 p60 i61 2 (1 : Int32)) fun h64 =>
    zb (zm58 x0 (zr h64 p60 i61 0) h64) fun _ h66 =>
    zm79_26 x1 x2 x3 x25 v55 h66
theorem zmS79 {x0 : zq} {x1 : zq} {x2 : Int32} {x3 : Int32} {h : zH} {r : Unit ⊕ Nat} {h' : zH} (H : zm79 x0 x1 x2 x3 h = some (r, h')) : zAt 79 0 [some (zrv x0), some (zrv x1), some (zI x2), some (zI x3), none, none, none] [] h (zoU r) h' := by
  unfold zm79 at H
  refine zA_aldn rfl rfl rfl ?_
  obtain ⟨p21, i22, e23, c24, H⟩ := zob_e H
  refine zA_gf3 rfl rfl e23 c24 ?_
  obtain ⟨x25, e26, H⟩ := zlet_e H
  refine zA_ast2 rfl rfl e26 (zset1 (L' := [some (zrv x0), some (zrv x1), some (zI x2), some (zI x3), some (zrv x25), none, none]) (zcat_rv _) rfl (zpcV rfl rfl)) ?_
  refine zA_aldn rfl rfl rfl ?_
  obtain ⟨p27, i28, e29, c30, H⟩ := zob_e H
  refine zA_gf3 rfl rfl e29 c30 ?_
  refine zA_ald rfl rfl rfl ?_
  obtain ⟨p31, i32, e33, c34, H⟩ := zob_e H
  refine zA_gf0 rfl rfl (Or.inl rfl) e33 c34 ?_
  obtain ⟨p35, i36, j37, v42, e38, c39, c40, e41, e43, H⟩ := zra_e H
  refine zA_aal rfl rfl e38 c39 c40 e41 e43 ?_
  obtain ⟨p44, i45, e46, c47, H⟩ := zob_e H
  refine zA_gf3 rfl rfl e46 c47 ?_
  refine zA_ldn rfl rfl rfl ?_
  obtain ⟨p48, i49, j50, v55, e51, c52, c53, e54, e56, H⟩ := zra_e H
  refine zA_aal rfl rfl e51 c52 c53 e54 e56 ?_
  refine zA_ast2 rfl rfl rfl (zset1 (L' := [some (zrv x0), some (zrv x1), some (zI x2), some (zI x3), some (zrv x25), some (zrv v55), none]) (zcat_rv _) rfl (zpcV rfl (zcat_rv _))) ?_
  refine zA_aldn rfl rfl rfl ?_
  refine zA_ald rfl rfl rfl ?_
  refine zA_ald rfl rfl rfl ?_
  rcases zb_e H with ⟨x58, h57, C, H⟩ | ⟨E, h57, C, H⟩
  · refine zA_callV (as := [zrv x0, zrv x25, zrv v55]) (st' := []) rfl rfl rfl (zrcv_Q e29 c30) rfl (zmE66 _ _ _) rfl (zmS66 C) ?_
    refine zA_ast2 rfl rfl rfl (zset1 (L' := [some (zrv x0), some (zrv x1), some (zI x2), some (zI x3), some (zrv x25), some (zrv v55), some (zrv x58)]) (zcat_rv _) rfl (zpcV rfl (zcat_rv _))) ?_
    refine zA_ald rfl rfl rfl ?_
    rcases zite_e H with ⟨c59, H⟩ | ⟨c59, H⟩
    · refine zA_brT (c := x58 = none) rfl rfl zIf_null c59 ?_
      exact zA_tr (L := [none, some (zrv x1), some (zI x2), some (zI x3), some (zrv x25), some (zrv v55), none]) rfl rfl (zmS79_26 _ _ _ _ _ _ _ _ H)
    · refine zA_brF (c := x58 = none) rfl rfl zIf_null c59 ?_
      refine zA_ald rfl rfl rfl ?_
      refine zA_push rfl rfl zkk5 ?_
      obtain ⟨p60, i61, e62, c63, H⟩ := zob_e H
      obtain ⟨h64, e65, H⟩ := zlet_e H
      refine zA_pf0 rfl rfl e62 c63 e65 ?_
      refine zA_aldn rfl rfl rfl ?_
      refine zA_ald rfl rfl rfl ?_
      refine zA_gf3 rfl rfl e62 c63 ?_
      rcases zb_e H with ⟨u67, h66, C, H⟩ | ⟨E, h66, C, H⟩
      · refine zA_callU (as := [zrv x0, zrv (zr h64 p60 i61 0)]) (st' := []) rfl rfl rfl (zrcv_Q e29 c30) rfl (zmE58 _ _) rfl (zmS58 C) ?_
        exact zA_tr (L := [none, some (zrv x1), some (zI x2), some (zI x3), some (zrv x25), some (zrv v55), none]) rfl rfl (zmS79_26 _ _ _ _ _ _ _ _ H)
      · cases H
        exact zA_callX (as := [zrv x0, zrv (zr h64 p60 i61 0)]) (st' := []) rfl rfl (zrcv_Q e29 c30) rfl (zmE58 _ _) rfl rfl rfl (zmS58 C)
  · cases H
    exact zA_callX (as := [zrv x0, zrv x25, zrv v55]) (st' := []) rfl rfl (zrcv_Q e29 c30) rfl (zmE66 _ _ _) rfl rfl rfl (zmS66 C)
theorem zmE79 (x0 : zq) (x1 : zq) (x2 : Int32) (x3 : Int32) : zpad (zPr.2.1 79).1 (zil [zrv x0, zrv x1, zI x2, zI x3]) = [some (zrv x0), some (zrv x1), some (zI x2), some (zI x3), none, none, none] := by
  simp only [zil_A, zil_I, zil_F, zil_D, zil_N]
  rfl
-- 78: ReleaseHouse.doEffect(LReleaseHouse$Release;)V
def zm78 (x0 : zq) (x1 : zq) (h : zH) : zRs Unit :=
  zob 11 x0 fun p21 i22 =>
  zob 5 x1 fun p25 i26 =>
  zob 0 (zr h p25 i26 0) fun p29 i30 =>
  zra (zr h p21 i22 6) (zi h p29 i30 1) h fun v40 =>
  zob 8 v40 fun p42 i43 =>
  zlet (zr h p42 i43 0) fun x46 =>
  zb (zm13 x1 h) fun x49 h48 =>
  zb (zm12 x1 h48) fun x51 h50 =>
  if x51.toInt < 0 ∨ 4 < x51.toInt then
    some (.inl (), h50)
  else if x51 = (0 : Int32) then
    zra x46 x49 h50 fun v120 =>
    zob 9 v120 fun p122 i123 =>
    zb (zm28 v120 (zr h50 p25 i26 0) h50) fun x127 h126 =>
    if x127 = 0 then
      zra x46 x49 h126 fun v136 =>
      zob 9 v136 fun p138 i139 =>
      if (zr h126 p138 i139 0) = (zr h126 p25 i26 0) then
        some (.inl (), h126)
      else
        zb (zm14 x1 h126) fun x144 h143 =>
        zb (zm79 x0 x1 x49 x144 h143) fun _ h145 =>
        some (.inl (), h145)
    else
      zb (zm58 x0 (zr h126 p25 i26 0) h126) fun _ h147 =>
      zb (zm59 x0 x1 (4 : Int32) h147) fun _ h148 =>
      some (.inl (), h148)
  else if x51 = (1 : Int32) then
    some (.inl (), h50)
  else if x51 = (2 : Int32) then
    zra x46 x49 h50 fun v100 =>
    zob 9 v100 fun p102 i103 =>
    zb (zm34 v100 h50) fun x107 h106 =>
    if x107 = (2 : Int32) then
      zb (zm56 x0 x1 h106) fun x110 h109 =>
      some (.inl (), h109)
    else
      some (.inl (), h106)
  else if x51 = (3 : Int32) then
    some (.inl (), h50)
  else if x51 = (4 : Int32) then
    zra x46 x49 h50 fun v60 =>
    zob 9 v60 fun p62 i63 =>
    zb (zm28 v60 (zr h50 p25 i26 0) h50) fun x67 h66 =>
    if x67 = 0 then
      zra x46 x49 h66 fun v76 =>
      zob 9 v76 fun p78 i79 =>
      if (zr h66 p78 i79 0) = (zr h66 p25 i26 0) then
        some (.inl (), h66)
      else
        zb (zm14 x1 h66) fun x84 h83 =>
        zb (zm79 x0 x1 x49 x84 h83) fun _ h85 =>
        some (.inl (), h85)
    else
      zb (zm58 x0 (zr h66 p25 i26 0) h66) fun _ h87 =>
      zb (zm59 x0 x1 (4 : Int32) h87) fun _ h88 =>
      some (.inl (), h88)
  else none
theorem zmS78 {x0 : zq} {x1 : zq} {h : zH} {r : Unit ⊕ Nat} {h' : zH} (H : zm78 x0 x1 h = some (r, h')) : zAt 78 0 [some (zrv x0), some (zrv x1), none, none] [] h (zoU r) h' := by
  unfold zm78 at H
  refine zA_aldn rfl rfl rfl ?_
  obtain ⟨p21, i22, e23, c24, H⟩ := zob_e H
  refine zA_gf3 rfl rfl e23 c24 ?_
  refine zA_aldn rfl rfl rfl ?_
  obtain ⟨p25, i26, e27, c28, H⟩ := zob_e H
  refine zA_gf3 rfl rfl e27 c28 ?_
  obtain ⟨p29, i30, e31, c32, H⟩ := zob_e H
  refine zA_gf0 rfl rfl (Or.inl rfl) e31 c32 ?_
  obtain ⟨p33, i34, j35, v40, e36, c37, c38, e39, e41, H⟩ := zra_e H
  refine zA_aal rfl rfl e36 c37 c38 e39 e41 ?_
  obtain ⟨p42, i43, e44, c45, H⟩ := zob_e H
  refine zA_gf3 rfl rfl e44 c45 ?_
  obtain ⟨x46, e47, H⟩ := zlet_e H
  refine zA_astn2 rfl rfl e47 (zset1 (L' := [some (zrv x0), some (zrv x1), some (zrv x46), none]) (zcat_rv _) rfl (zpcV rfl (zcat_rv _))) ?_
  refine zA_aldn rfl rfl rfl ?_
  rcases zb_e H with ⟨x49, h48, C, H⟩ | ⟨E, h48, C, H⟩
  · refine zA_callV (as := [zrv x1]) (st' := []) rfl rfl rfl (zrcv_Q e27 c28) rfl (zmE13 _) rfl (zmS13 C) ?_
    refine zA_istn2 rfl rfl rfl (zset1 (L' := [some (zrv x0), some (zrv x1), some (zrv x46), some (zI x49)]) rfl rfl (zpcV rfl (zcat_rv _))) ?_
    refine zA_aldn rfl rfl rfl ?_
    rcases zb_e H with ⟨x51, h50, C, H⟩ | ⟨E, h50, C, H⟩
    · refine zA_callV (as := [zrv x1]) (st' := []) rfl rfl rfl (zrcv_Q e27 c28) rfl (zmE12 _) rfl (zmS12 C) ?_
      rcases zite_e H with ⟨c52, H⟩ | ⟨c52, H⟩
      · refine zA_swD rfl rfl c52 ?_
        refine zA_tr (L := [none, none, none, none]) rfl rfl ?_
        cases H
        exact zA_ret rfl rfl
      · rcases zite_e H with ⟨c151, H⟩ | ⟨c151, H⟩
        · refine zA_swT (j := 0) (t := 14) rfl rfl c52 (by rw [c151]; decide) rfl ?_
          refine zA_aldn rfl rfl rfl ?_
          refine zA_ldn rfl rfl rfl ?_
          obtain ⟨p113, i114, j115, v120, e116, c117, c118, e119, e121, H⟩ := zra_e H
          refine zA_aal rfl rfl e116 c117 c118 e119 e121 ?_
          refine zA_aldn rfl rfl rfl ?_
          refine zA_gf3 rfl rfl e27 c28 ?_
          obtain ⟨p122, i123, e124, c125, H⟩ := zob_e H
          rcases zb_e H with ⟨x127, h126, C, H⟩ | ⟨E, h126, C, H⟩
          · refine zA_callV (as := [zrv v120, zrv (zr h50 p25 i26 0)]) (st' := []) rfl rfl rfl (zrcv_Q e124 c125) rfl (zmE28 _ _) rfl (zmS28 C) ?_
            rcases zite_e H with ⟨c128, H⟩ | ⟨c128, H⟩
            · refine zA_brT (c := x127 = 0) rfl rfl rfl c128 ?_
              refine zA_aldn rfl rfl rfl ?_
              refine zA_ldn rfl rfl rfl ?_
              obtain ⟨p129, i130, j131, v136, e132, c133, c134, e135, e137, H⟩ := zra_e H
              refine zA_aal rfl rfl e132 c133 c134 e135 e137 ?_
              obtain ⟨p138, i139, e140, c141, H⟩ := zob_e H
              refine zA_gf3 rfl rfl e140 c141 ?_
              refine zA_aldn rfl rfl rfl ?_
              refine zA_gf3 rfl rfl e27 c28 ?_
              rcases zite_e H with ⟨c142, H⟩ | ⟨c142, H⟩
              · refine zA_brT (c := (zr h126 p138 i139 0) = (zr h126 p25 i26 0)) rfl rfl zIf_aeq c142 ?_
                refine zA_tr (L := [none, none, none, none]) rfl rfl ?_
                cases H
                exact zA_ret rfl rfl
              · refine zA_brF (c := (zr h126 p138 i139 0) = (zr h126 p25 i26 0)) rfl rfl zIf_aeq c142 ?_
                refine zA_aldn rfl rfl rfl ?_
                refine zA_aldn rfl rfl rfl ?_
                refine zA_ldn rfl rfl rfl ?_
                refine zA_aldn rfl rfl rfl ?_
                rcases zb_e H with ⟨x144, h143, C, H⟩ | ⟨E, h143, C, H⟩
                · refine zA_callV (as := [zrv x1]) (st' := [zI x49, zrv x1, zrv x0]) rfl rfl rfl (zrcv_Q e27 c28) rfl (zmE14 _) rfl (zmS14 C) ?_
                  rcases zb_e H with ⟨u146, h145, C, H⟩ | ⟨E, h145, C, H⟩
                  · refine zA_callU (as := [zrv x0, zrv x1, zI x49, zI x144]) (st' := []) rfl rfl rfl (zrcv_Q e23 c24) rfl (zmE79 _ _ _ _) rfl (zmS79 C) ?_
                    refine zA_go rfl rfl ?_
                    refine zA_tr (L := [none, none, none, none]) rfl rfl ?_
                    cases H
                    exact zA_ret rfl rfl
                  · cases H
                    exact zA_callX (as := [zrv x0, zrv x1, zI x49, zI x144]) (st' := []) rfl rfl (zrcv_Q e23 c24) rfl (zmE79 _ _ _ _) rfl rfl rfl (zmS79 C)
                · cases H
                  exact zA_callX (as := [zrv x1]) (st' := [zI x49, zrv x1, zrv x0]) rfl rfl (zrcv_Q e27 c28) rfl (zmE14 _) rfl rfl rfl (zmS14 C)
            · refine zA_brF (c := x127 = 0) rfl rfl rfl c128 ?_
              refine zA_aldn rfl rfl rfl ?_
              refine zA_aldn rfl rfl rfl ?_
              refine zA_gf3 rfl rfl e27 c28 ?_
              rcases zb_e H with ⟨u150, h147, C, H⟩ | ⟨E, h147, C, H⟩
              · refine zA_callU (as := [zrv x0, zrv (zr h126 p25 i26 0)]) (st' := []) rfl rfl rfl (zrcv_Q e23 c24) rfl (zmE58 _ _) rfl (zmS58 C) ?_
                refine zA_aldn rfl rfl rfl ?_
                refine zA_aldn rfl rfl rfl ?_
                refine zA_push rfl rfl zkk9 ?_
                rcases zb_e H with ⟨u149, h148, C, H⟩ | ⟨E, h148, C, H⟩
                · refine zA_callU (as := [zrv x0, zrv x1, zI (4 : Int32)]) (st' := []) rfl rfl rfl (zrcv_Q e23 c24) rfl (zmE59 _ _ _) rfl (zmS59 C) ?_
                  refine zA_go rfl rfl ?_
                  refine zA_tr (L := [none, none, none, none]) rfl rfl ?_
                  cases H
                  exact zA_ret rfl rfl
                · cases H
                  exact zA_callX (as := [zrv x0, zrv x1, zI (4 : Int32)]) (st' := []) rfl rfl (zrcv_Q e23 c24) rfl (zmE59 _ _ _) rfl rfl rfl (zmS59 C)
              · cases H
                exact zA_callX (as := [zrv x0, zrv (zr h126 p25 i26 0)]) (st' := []) rfl rfl (zrcv_Q e23 c24) rfl (zmE58 _ _) rfl rfl rfl (zmS58 C)
          · cases H
            exact zA_callX (as := [zrv v120, zrv (zr h50 p25 i26 0)]) (st' := []) rfl rfl (zrcv_Q e124 c125) rfl (zmE28 _ _) rfl rfl rfl (zmS28 C)
        · rcases zite_e H with ⟨c112, H⟩ | ⟨c112, H⟩
          · refine zA_swT (j := 1) (t := 55) rfl rfl c52 (by rw [c112]; decide) rfl ?_
            refine zA_tr (L := [none, none, none, none]) rfl rfl ?_
            cases H
            exact zA_ret rfl rfl
          · rcases zite_e H with ⟨c111, H⟩ | ⟨c111, H⟩
            · refine zA_swT (j := 2) (t := 44) rfl rfl c52 (by rw [c111]; decide) rfl ?_
              refine zA_aldn rfl rfl rfl ?_
              refine zA_ldn rfl rfl rfl ?_
              obtain ⟨p93, i94, j95, v100, e96, c97, c98, e99, e101, H⟩ := zra_e H
              refine zA_aal rfl rfl e96 c97 c98 e99 e101 ?_
              obtain ⟨p102, i103, e104, c105, H⟩ := zob_e H
              rcases zb_e H with ⟨x107, h106, C, H⟩ | ⟨E, h106, C, H⟩
              · refine zA_callV (as := [zrv v100]) (st' := []) rfl rfl rfl (zrcv_Q e104 c105) rfl (zmE34 _) rfl (zmS34 C) ?_
                refine zA_push rfl rfl zkk23 ?_
                rcases zite_e H with ⟨c108, H⟩ | ⟨c108, H⟩
                · refine zA_brF' (c := x107 = (2 : Int32)) rfl rfl rfl c108 ?_
                  refine zA_aldn rfl rfl rfl ?_
                  refine zA_aldn rfl rfl rfl ?_
                  rcases zb_e H with ⟨x110, h109, C, H⟩ | ⟨E, h109, C, H⟩
                  · refine zA_callV (as := [zrv x0, zrv x1]) (st' := []) rfl rfl rfl (zrcv_Q e23 c24) rfl (zmE56 _ _) rfl (zmS56 C) ?_
                    refine zA_pop rfl rfl rfl ?_
                    refine zA_go rfl rfl ?_
                    refine zA_tr (L := [none, none, none, none]) rfl rfl ?_
                    cases H
                    exact zA_ret rfl rfl
                  · cases H
                    exact zA_callX (as := [zrv x0, zrv x1]) (st' := []) rfl rfl (zrcv_Q e23 c24) rfl (zmE56 _ _) rfl rfl rfl (zmS56 C)
                · refine zA_brT' (c := x107 = (2 : Int32)) rfl rfl rfl c108 ?_
                  refine zA_tr (L := [none, none, none, none]) rfl rfl ?_
                  cases H
                  exact zA_ret rfl rfl
              · cases H
                exact zA_callX (as := [zrv v100]) (st' := []) rfl rfl (zrcv_Q e104 c105) rfl (zmE34 _) rfl rfl rfl (zmS34 C)
            · rcases zite_e H with ⟨c92, H⟩ | ⟨c92, H⟩
              · refine zA_swT (j := 3) (t := 55) rfl rfl c52 (by rw [c92]; decide) rfl ?_
                refine zA_tr (L := [none, none, none, none]) rfl rfl ?_
                cases H
                exact zA_ret rfl rfl
              · rcases zite_e H with ⟨c91, H⟩ | ⟨c91, H⟩
                · refine zA_swT (j := 4) (t := 14) rfl rfl c52 (by rw [c91]; decide) rfl ?_
                  refine zA_aldn rfl rfl rfl ?_
                  refine zA_ldn rfl rfl rfl ?_
                  obtain ⟨p53, i54, j55, v60, e56, c57, c58, e59, e61, H⟩ := zra_e H
                  refine zA_aal rfl rfl e56 c57 c58 e59 e61 ?_
                  refine zA_aldn rfl rfl rfl ?_
                  refine zA_gf3 rfl rfl e27 c28 ?_
                  obtain ⟨p62, i63, e64, c65, H⟩ := zob_e H
                  rcases zb_e H with ⟨x67, h66, C, H⟩ | ⟨E, h66, C, H⟩
                  · refine zA_callV (as := [zrv v60, zrv (zr h50 p25 i26 0)]) (st' := []) rfl rfl rfl (zrcv_Q e64 c65) rfl (zmE28 _ _) rfl (zmS28 C) ?_
                    rcases zite_e H with ⟨c68, H⟩ | ⟨c68, H⟩
                    · refine zA_brT (c := x67 = 0) rfl rfl rfl c68 ?_
                      refine zA_aldn rfl rfl rfl ?_
                      refine zA_ldn rfl rfl rfl ?_
                      obtain ⟨p69, i70, j71, v76, e72, c73, c74, e75, e77, H⟩ := zra_e H
                      refine zA_aal rfl rfl e72 c73 c74 e75 e77 ?_
                      obtain ⟨p78, i79, e80, c81, H⟩ := zob_e H
                      refine zA_gf3 rfl rfl e80 c81 ?_
                      refine zA_aldn rfl rfl rfl ?_
                      refine zA_gf3 rfl rfl e27 c28 ?_
                      rcases zite_e H with ⟨c82, H⟩ | ⟨c82, H⟩
                      · refine zA_brT (c := (zr h66 p78 i79 0) = (zr h66 p25 i26 0)) rfl rfl zIf_aeq c82 ?_
                        refine zA_tr (L := [none, none, none, none]) rfl rfl ?_
                        cases H
                        exact zA_ret rfl rfl
                      · refine zA_brF (c := (zr h66 p78 i79 0) = (zr h66 p25 i26 0)) rfl rfl zIf_aeq c82 ?_
                        refine zA_aldn rfl rfl rfl ?_
                        refine zA_aldn rfl rfl rfl ?_
                        refine zA_ldn rfl rfl rfl ?_
                        refine zA_aldn rfl rfl rfl ?_
                        rcases zb_e H with ⟨x84, h83, C, H⟩ | ⟨E, h83, C, H⟩
                        · refine zA_callV (as := [zrv x1]) (st' := [zI x49, zrv x1, zrv x0]) rfl rfl rfl (zrcv_Q e27 c28) rfl (zmE14 _) rfl (zmS14 C) ?_
                          rcases zb_e H with ⟨u86, h85, C, H⟩ | ⟨E, h85, C, H⟩
                          · refine zA_callU (as := [zrv x0, zrv x1, zI x49, zI x84]) (st' := []) rfl rfl rfl (zrcv_Q e23 c24) rfl (zmE79 _ _ _ _) rfl (zmS79 C) ?_
                            refine zA_go rfl rfl ?_
                            refine zA_tr (L := [none, none, none, none]) rfl rfl ?_
                            cases H
                            exact zA_ret rfl rfl
                          · cases H
                            exact zA_callX (as := [zrv x0, zrv x1, zI x49, zI x84]) (st' := []) rfl rfl (zrcv_Q e23 c24) rfl (zmE79 _ _ _ _) rfl rfl rfl (zmS79 C)
                        · cases H
                          exact zA_callX (as := [zrv x1]) (st' := [zI x49, zrv x1, zrv x0]) rfl rfl (zrcv_Q e27 c28) rfl (zmE14 _) rfl rfl rfl (zmS14 C)
                    · refine zA_brF (c := x67 = 0) rfl rfl rfl c68 ?_
                      refine zA_aldn rfl rfl rfl ?_
                      refine zA_aldn rfl rfl rfl ?_
                      refine zA_gf3 rfl rfl e27 c28 ?_
                      rcases zb_e H with ⟨u90, h87, C, H⟩ | ⟨E, h87, C, H⟩
                      · refine zA_callU (as := [zrv x0, zrv (zr h66 p25 i26 0)]) (st' := []) rfl rfl rfl (zrcv_Q e23 c24) rfl (zmE58 _ _) rfl (zmS58 C) ?_
                        refine zA_aldn rfl rfl rfl ?_
                        refine zA_aldn rfl rfl rfl ?_
                        refine zA_push rfl rfl zkk9 ?_
                        rcases zb_e H with ⟨u89, h88, C, H⟩ | ⟨E, h88, C, H⟩
                        · refine zA_callU (as := [zrv x0, zrv x1, zI (4 : Int32)]) (st' := []) rfl rfl rfl (zrcv_Q e23 c24) rfl (zmE59 _ _ _) rfl (zmS59 C) ?_
                          refine zA_go rfl rfl ?_
                          refine zA_tr (L := [none, none, none, none]) rfl rfl ?_
                          cases H
                          exact zA_ret rfl rfl
                        · cases H
                          exact zA_callX (as := [zrv x0, zrv x1, zI (4 : Int32)]) (st' := []) rfl rfl (zrcv_Q e23 c24) rfl (zmE59 _ _ _) rfl rfl rfl (zmS59 C)
                      · cases H
                        exact zA_callX (as := [zrv x0, zrv (zr h66 p25 i26 0)]) (st' := []) rfl rfl (zrcv_Q e23 c24) rfl (zmE58 _ _) rfl rfl rfl (zmS58 C)
                  · cases H
                    exact zA_callX (as := [zrv v60, zrv (zr h50 p25 i26 0)]) (st' := []) rfl rfl (zrcv_Q e64 c65) rfl (zmE28 _ _) rfl rfl rfl (zmS28 C)
                · cases H
    · cases H
      exact zA_callX (as := [zrv x1]) (st' := []) rfl rfl (zrcv_Q e27 c28) rfl (zmE12 _) rfl rfl rfl (zmS12 C)
  · cases H
    exact zA_callX (as := [zrv x1]) (st' := []) rfl rfl (zrcv_Q e27 c28) rfl (zmE13 _) rfl rfl rfl (zmS13 C)
theorem zmE78 (x0 : zq) (x1 : zq) : zpad (zPr.2.1 78).1 (zil [zrv x0, zrv x1]) = [some (zrv x0), some (zrv x1), none, none] := by
  simp only [zil_A, zil_I, zil_F, zil_D, zil_N]
  rfl
-- 80: ReleaseHouse.noteStep(LReleaseHouse$Release;)V
def zm80 (x0 : zq) (x1 : zq) (h : zH) : zRs Unit :=
  zob 5 x1 fun p21 i22 =>
  zob 11 x0 fun p25 i26 =>
  zb (zm11 x1 ((zi h p21 i22 3) + (1 : Int32)) (zi h p25 i26 11) h) fun _ h29 =>
  zob 4 (zr h29 p21 i22 1) fun p30 i31 =>
  if (zi h29 p21 i22 3) < (zi h29 p30 i31 3) then
    some (.inl (), h29)
  else
    zb (zm59 x0 x1 (2 : Int32) h29) fun _ h35 =>
    some (.inl (), h35)
theorem zmS80 {x0 : zq} {x1 : zq} {h : zH} {r : Unit ⊕ Nat} {h' : zH} (H : zm80 x0 x1 h = some (r, h')) : zAt 80 0 [some (zrv x0), some (zrv x1)] [] h (zoU r) h' := by
  unfold zm80 at H
  refine zA_aldn rfl rfl rfl ?_
  refine zA_aldn rfl rfl rfl ?_
  obtain ⟨p21, i22, e23, c24, H⟩ := zob_e H
  refine zA_gf0 rfl rfl (Or.inl rfl) e23 c24 ?_
  refine zA_push rfl rfl zkk5 ?_
  refine zA_st (st' := [zI ((zi h p21 i22 3) + (1 : Int32)), zrv x1]) rfl rfl rfl rfl ?_
  refine zA_aldn rfl rfl rfl ?_
  obtain ⟨p25, i26, e27, c28, H⟩ := zob_e H
  refine zA_gf0 rfl rfl (Or.inl rfl) e27 c28 ?_
  rcases zb_e H with ⟨u37, h29, C, H⟩ | ⟨E, h29, C, H⟩
  · refine zA_callU (as := [zrv x1, zI ((zi h p21 i22 3) + (1 : Int32)), zI (zi h p25 i26 11)]) (st' := []) rfl rfl rfl (zrcv_Q e23 c24) rfl (zmE11 _ _ _) rfl (zmS11 C) ?_
    refine zA_aldn rfl rfl rfl ?_
    refine zA_gf0 rfl rfl (Or.inl rfl) e23 c24 ?_
    refine zA_aldn rfl rfl rfl ?_
    refine zA_gf3 rfl rfl e23 c24 ?_
    obtain ⟨p30, i31, e32, c33, H⟩ := zob_e H
    refine zA_gf0 rfl rfl (Or.inl rfl) e32 c33 ?_
    rcases zite_e H with ⟨c34, H⟩ | ⟨c34, H⟩
    · refine zA_brT (c := (zi h29 p21 i22 3) < (zi h29 p30 i31 3)) rfl rfl rfl c34 ?_
      refine zA_tr (L := [none, none]) rfl rfl ?_
      cases H
      exact zA_ret rfl rfl
    · refine zA_brF (c := (zi h29 p21 i22 3) < (zi h29 p30 i31 3)) rfl rfl rfl c34 ?_
      refine zA_aldn rfl rfl rfl ?_
      refine zA_aldn rfl rfl rfl ?_
      refine zA_push rfl rfl zkk23 ?_
      rcases zb_e H with ⟨u36, h35, C, H⟩ | ⟨E, h35, C, H⟩
      · refine zA_callU (as := [zrv x0, zrv x1, zI (2 : Int32)]) (st' := []) rfl rfl rfl (zrcv_Q e27 c28) rfl (zmE59 _ _ _) rfl (zmS59 C) ?_
        refine zA_tr (L := [none, none]) rfl rfl ?_
        cases H
        exact zA_ret rfl rfl
      · cases H
        exact zA_callX (as := [zrv x0, zrv x1, zI (2 : Int32)]) (st' := []) rfl rfl (zrcv_Q e27 c28) rfl (zmE59 _ _ _) rfl rfl rfl (zmS59 C)
  · cases H
    exact zA_callX (as := [zrv x1, zI ((zi h p21 i22 3) + (1 : Int32)), zI (zi h p25 i26 11)]) (st' := []) rfl rfl (zrcv_Q e23 c24) rfl (zmE11 _ _ _) rfl rfl rfl (zmS11 C)
theorem zmE80 (x0 : zq) (x1 : zq) : zpad (zPr.2.1 80).1 (zil [zrv x0, zrv x1]) = [some (zrv x0), some (zrv x1)] := by
  simp only [zil_A, zil_I, zil_F, zil_D, zil_N]
  rfl
-- 77: ReleaseHouse.goOn(LReleaseHouse$Release;)Z
def zm77 (x0 : zq) (x1 : zq) (h : zH) : zRs Int32 :=
  zob 11 x0 fun p21 i22 =>
  if (zi h p21 i22 12) = (1 : Int32) then
    zlet (zsi h p21 i22 13 (1 : Int32)) fun h26 =>
    some (.inl (0 : Int32), h26)
  else
    zb (zm78 x0 x1 h) fun _ h28 =>
    zob 5 x1 fun p29 i30 =>
    zob 0 (zr h28 p29 i30 0) fun p33 i34 =>
    zra (zr h28 p21 i22 6) (zi h28 p33 i34 1) h28 fun v44 =>
    zb (zm60 x0 v44 h28) fun _ h46 =>
    zb (zm10 x1 h46) fun x48 h47 =>
    if (zi h47 p21 i22 12) = (2 : Int32) then
      zlet (zsi h47 p21 i22 13 (1 : Int32)) fun h50 =>
      zif (x48 = 0 ∨ x48 = 1) <|
      some (.inl x48, h50)
    else
      if x48 = 0 then
        zb (zm80 x0 x1 h47) fun _ h54 =>
        some (.inl (1 : Int32), h54)
      else
        some (.inl (1 : Int32), h47)
theorem zmS77 {x0 : zq} {x1 : zq} {h : zH} {r : Int32 ⊕ Nat} {h' : zH} (H : zm77 x0 x1 h = some (r, h')) : zAt 77 0 [some (zrv x0), some (zrv x1), none] [] h (zoI r) h' := by
  unfold zm77 at H
  refine zA_aldn rfl rfl rfl ?_
  obtain ⟨p21, i22, e23, c24, H⟩ := zob_e H
  refine zA_gf0 rfl rfl (Or.inl rfl) e23 c24 ?_
  refine zA_push rfl rfl zkk5 ?_
  rcases zite_e H with ⟨c25, H⟩ | ⟨c25, H⟩
  · refine zA_brF' (c := (zi h p21 i22 12) = (1 : Int32)) rfl rfl rfl c25 ?_
    refine zA_aldn rfl rfl rfl ?_
    refine zA_push rfl rfl zkk5 ?_
    obtain ⟨h26, e27, H⟩ := zlet_e H
    refine zA_pf1 rfl rfl e23 c24 (by decide) e27 ?_
    refine zA_push rfl rfl zkk7 ?_
    cases H
    exact zA_ret rfl (zret_Z (by decide))
  · refine zA_brT' (c := (zi h p21 i22 12) = (1 : Int32)) rfl rfl rfl c25 ?_
    refine zA_aldn rfl rfl rfl ?_
    refine zA_aldn rfl rfl rfl ?_
    rcases zb_e H with ⟨u57, h28, C, H⟩ | ⟨E, h28, C, H⟩
    · refine zA_callU (as := [zrv x0, zrv x1]) (st' := []) rfl rfl rfl (zrcv_Q e23 c24) rfl (zmE78 _ _) rfl (zmS78 C) ?_
      refine zA_aldn rfl rfl rfl ?_
      refine zA_aldn rfl rfl rfl ?_
      refine zA_gf3 rfl rfl e23 c24 ?_
      refine zA_aldn rfl rfl rfl ?_
      obtain ⟨p29, i30, e31, c32, H⟩ := zob_e H
      refine zA_gf3 rfl rfl e31 c32 ?_
      obtain ⟨p33, i34, e35, c36, H⟩ := zob_e H
      refine zA_gf0 rfl rfl (Or.inl rfl) e35 c36 ?_
      obtain ⟨p37, i38, j39, v44, e40, c41, c42, e43, e45, H⟩ := zra_e H
      refine zA_aal rfl rfl e40 c41 c42 e43 e45 ?_
      rcases zb_e H with ⟨u56, h46, C, H⟩ | ⟨E, h46, C, H⟩
      · refine zA_callU (as := [zrv x0, zrv v44]) (st' := []) rfl rfl rfl (zrcv_Q e23 c24) rfl (zmE60 _ _) rfl (zmS60 C) ?_
        refine zA_aldn rfl rfl rfl ?_
        rcases zb_e H with ⟨x48, h47, C, H⟩ | ⟨E, h47, C, H⟩
        · refine zA_callV (as := [zrv x1]) (st' := []) rfl rfl rfl (zrcv_Q e31 c32) rfl (zmE10 _) rfl (zmS10 C) ?_
          refine zA_istn2 rfl rfl rfl (zset1 (L' := [some (zrv x0), some (zrv x1), some (zI x48)]) rfl rfl (zpcV rfl (zcat_rv _))) ?_
          refine zA_aldn rfl rfl rfl ?_
          refine zA_gf0 rfl rfl (Or.inl rfl) e23 c24 ?_
          refine zA_push rfl rfl zkk23 ?_
          rcases zite_e H with ⟨c49, H⟩ | ⟨c49, H⟩
          · refine zA_brF' (c := (zi h47 p21 i22 12) = (2 : Int32)) rfl rfl rfl c49 ?_
            refine zA_aldn rfl rfl rfl ?_
            refine zA_push rfl rfl zkk5 ?_
            obtain ⟨h50, e51, H⟩ := zlet_e H
            refine zA_pf1 rfl rfl e23 c24 (by decide) e51 ?_
            refine zA_ldn rfl rfl rfl ?_
            obtain ⟨c52, H⟩ := zif_e H
            cases H
            exact zA_ret rfl (zret_Z c52)
          · refine zA_brT' (c := (zi h47 p21 i22 12) = (2 : Int32)) rfl rfl rfl c49 ?_
            refine zA_ldn rfl rfl rfl ?_
            rcases zite_e H with ⟨c53, H⟩ | ⟨c53, H⟩
            · refine zA_brF' (c := x48 = 0) rfl rfl rfl c53 ?_
              refine zA_aldn rfl rfl rfl ?_
              refine zA_aldn rfl rfl rfl ?_
              rcases zb_e H with ⟨u55, h54, C, H⟩ | ⟨E, h54, C, H⟩
              · refine zA_callU (as := [zrv x0, zrv x1]) (st' := []) rfl rfl rfl (zrcv_Q e23 c24) rfl (zmE80 _ _) rfl (zmS80 C) ?_
                refine zA_tr (L := [none, none, none]) rfl rfl ?_
                refine zA_push rfl rfl zkk5 ?_
                cases H
                exact zA_ret rfl (zret_Z (by decide))
              · cases H
                exact zA_callX (as := [zrv x0, zrv x1]) (st' := []) rfl rfl (zrcv_Q e23 c24) rfl (zmE80 _ _) rfl rfl rfl (zmS80 C)
            · refine zA_brT' (c := x48 = 0) rfl rfl rfl c53 ?_
              refine zA_tr (L := [none, none, none]) rfl rfl ?_
              refine zA_push rfl rfl zkk5 ?_
              cases H
              exact zA_ret rfl (zret_Z (by decide))
        · cases H
          exact zA_callX (as := [zrv x1]) (st' := []) rfl rfl (zrcv_Q e31 c32) rfl (zmE10 _) rfl rfl rfl (zmS10 C)
      · cases H
        exact zA_callX (as := [zrv x0, zrv v44]) (st' := []) rfl rfl (zrcv_Q e23 c24) rfl (zmE60 _ _) rfl rfl rfl (zmS60 C)
    · cases H
      exact zA_callX (as := [zrv x0, zrv x1]) (st' := []) rfl rfl (zrcv_Q e23 c24) rfl (zmE78 _ _) rfl rfl rfl (zmS78 C)
theorem zmE77 (x0 : zq) (x1 : zq) : zpad (zPr.2.1 77).1 (zil [zrv x0, zrv x1]) = [some (zrv x0), some (zrv x1), none] := by
  simp only [zil_A, zil_I, zil_F, zil_D, zil_N]
  rfl
def zm76_35 (k4 : zq → Int32 → Int32 → Int32 → zH → zRs Int32) (x0 : zq) (x1 : Int32) (x2 : Int32) (x3 : Int32) (h : zH) : zRs Int32 :=
  zlet (x3 + (1 : Int32)) fun x21 =>
  k4 x0 x1 x2 x21 h
theorem zmS76_35 {k4 : zq → Int32 → Int32 → Int32 → zH → zRs Int32} (hk4 : ∀ (x0 : zq) (x1 : Int32) (x2 : Int32) (x3 : Int32) (h : zH) (r : Int32 ⊕ Nat) (h' : zH), k4 x0 x1 x2 x3 h = some (r, h') → zAt 76 4 [some (zrv x0), some (zI x1), some (zI x2), some (zI x3), none] [] h (zoI r) h') : ∀ (x0 : zq) (x1 : Int32) (x2 : Int32) (x3 : Int32) (h : zH) (r : Int32 ⊕ Nat) (h' : zH), zm76_35 k4 x0 x1 x2 x3 h = some (r, h') → zAt 76 35 [some (zrv x0), some (zI x1), some (zI x2), some (zI x3), none] [] h (zoI r) h' := by
  intro x0 x1 x2 x3 h r h' H
  unfold zm76_35 at H
  obtain ⟨x21, e22, H⟩ := zlet_e H
  refine zA_inc rfl rfl rfl (e22.trans (congrArg (_ + ·) zkk8)) (zset1 (L' := [some (zrv x0), some (zI x1), some (zI x2), some (zI x21), none]) rfl rfl (zpcV rfl rfl)) ?_
  refine zA_go rfl rfl ?_
  exact zA_tr (L := [some (zrv x0), some (zI x1), some (zI x2), some (zI x21), none]) rfl rfl (hk4 _ _ _ _ _ _ _ H)
def zm76_4 : Nat → zq → Int32 → Int32 → Int32 → zH → zRs Int32
  | 0, _, _, _, _, _ => none
  | n + 1, x0, x1, x2, x3, h =>
    zob 11 x0 fun p21 i22 =>
    zlz (zr h p21 i22 2) h fun v30 =>
    if v30 ≤ x3 then
      some (.inl x2, h)
    else
      if (zi h p21 i22 13) = 0 then
        zlg (zr h p21 i22 2) x3 h fun v40 =>
        zob 5 v40 fun p42 i43 =>
        zob 0 (zr h p42 i43 0) fun p46 i47 =>
        if (zi h p46 i47 8) = x1 then
          if (zi h p42 i43 2) = 0 then
            zb (zm64 x0 v40 h) fun x53 h52 =>
            if x53 = 0 then
              zb (zm77 x0 v40 h52) fun x56 h55 =>
              if x56 = 0 then
                zm76_35 (zm76_4 n) x0 x1 x2 x3 h55
              else
                zlet (x2 + (1 : Int32)) fun x58 =>
                zm76_35 (zm76_4 n) x0 x1 x58 x3 h55
            else
              zm76_35 (zm76_4 n) x0 x1 x2 x3 h52
          else
            zm76_35 (zm76_4 n) x0 x1 x2 x3 h
        else
          zm76_35 (zm76_4 n) x0 x1 x2 x3 h
      else
        some (.inl x2, h)
theorem zmS76_4 : ∀ (n : Nat) (x0 : zq) (x1 : Int32) (x2 : Int32) (x3 : Int32) (h : zH) (r : Int32 ⊕ Nat) (h' : zH), zm76_4 n x0 x1 x2 x3 h = some (r, h') → zAt 76 4 [some (zrv x0), some (zI x1), some (zI x2), some (zI x3), none] [] h (zoI r) h' := by
  intro n
  induction n with
  | zero => intro x0 x1 x2 x3 h r h' H; cases H
  | succ n ih =>
    intro x0 x1 x2 x3 h r h' H
    unfold zm76_4 at H
    refine zA_ldn rfl rfl rfl ?_
    refine zA_aldn rfl rfl rfl ?_
    obtain ⟨p21, i22, e23, c24, H⟩ := zob_e H
    refine zA_gf3 rfl rfl e23 c24 ?_
    obtain ⟨p25, i26, v30, e27, c28, c29, e31, H⟩ := zlz_e H
    refine zA_l2 rfl rfl rfl e27 c28 c29 e31 ?_
    rcases zite_e H with ⟨c32, H⟩ | ⟨c32, H⟩
    · refine zA_brT (c := v30 ≤ x3) rfl rfl rfl c32 ?_
      refine zA_tr (L := [none, none, some (zI x2), none, none]) rfl rfl ?_
      refine zA_ldn rfl rfl rfl ?_
      cases H
      exact zA_ret rfl rfl
    · refine zA_brF (c := v30 ≤ x3) rfl rfl rfl c32 ?_
      refine zA_aldn rfl rfl rfl ?_
      refine zA_gf0 rfl rfl (Or.inr rfl) e23 c24 ?_
      rcases zite_e H with ⟨c33, H⟩ | ⟨c33, H⟩
      · refine zA_brF' (c := (zi h p21 i22 13) = 0) rfl rfl rfl c33 ?_
        refine zA_aldn rfl rfl rfl ?_
        refine zA_gf3 rfl rfl e23 c24 ?_
        refine zA_ldn rfl rfl rfl ?_
        obtain ⟨p34, i35, v40, e36, c37, c38, c39, e41, H⟩ := zlg_e H
        refine zA_l3 rfl rfl rfl e36 c37 c38 c39 e41 ?_
        obtain ⟨p42, i43, e44, c45, H⟩ := zob_e H
        refine zA_cast rfl rfl e44 c45 ?_
        refine zA_ast2 rfl rfl rfl (zset1 (L' := [some (zrv x0), some (zI x1), some (zI x2), some (zI x3), some (zrv v40)]) (zcat_rv _) rfl (zpcV rfl rfl)) ?_
        refine zA_ald rfl rfl rfl ?_
        refine zA_gf3 rfl rfl e44 c45 ?_
        obtain ⟨p46, i47, e48, c49, H⟩ := zob_e H
        refine zA_gf0 rfl rfl (Or.inr rfl) e48 c49 ?_
        refine zA_ldn rfl rfl rfl ?_
        rcases zite_e H with ⟨c50, H⟩ | ⟨c50, H⟩
        · refine zA_brF' (c := (zi h p46 i47 8) = x1) rfl rfl rfl c50 ?_
          refine zA_ald rfl rfl rfl ?_
          refine zA_gf0 rfl rfl (Or.inl rfl) e44 c45 ?_
          rcases zite_e H with ⟨c51, H⟩ | ⟨c51, H⟩
          · refine zA_brF' (c := (zi h p42 i43 2) = 0) rfl rfl rfl c51 ?_
            refine zA_aldn rfl rfl rfl ?_
            refine zA_ald rfl rfl rfl ?_
            rcases zb_e H with ⟨x53, h52, C, H⟩ | ⟨E, h52, C, H⟩
            · refine zA_callV (as := [zrv x0, zrv v40]) (st' := []) rfl rfl rfl (zrcv_Q e23 c24) rfl (zmE64 _ _) rfl (zmS64 C) ?_
              rcases zite_e H with ⟨c54, H⟩ | ⟨c54, H⟩
              · refine zA_brF' (c := x53 = 0) rfl rfl rfl c54 ?_
                refine zA_aldn rfl rfl rfl ?_
                refine zA_ald rfl rfl rfl ?_
                rcases zb_e H with ⟨x56, h55, C, H⟩ | ⟨E, h55, C, H⟩
                · refine zA_callV (as := [zrv x0, zrv v40]) (st' := []) rfl rfl rfl (zrcv_Q e23 c24) rfl (zmE77 _ _) rfl (zmS77 C) ?_
                  rcases zite_e H with ⟨c57, H⟩ | ⟨c57, H⟩
                  · refine zA_brT (c := x56 = 0) rfl rfl rfl c57 ?_
                    exact zA_tr (L := [some (zrv x0), some (zI x1), some (zI x2), some (zI x3), none]) rfl rfl (zmS76_35 ih _ _ _ _ _ _ _ H)
                  · refine zA_brF (c := x56 = 0) rfl rfl rfl c57 ?_
                    obtain ⟨x58, e59, H⟩ := zlet_e H
                    refine zA_inc rfl rfl rfl (e59.trans (congrArg (_ + ·) zkk8)) (zset1 (L' := [some (zrv x0), some (zI x1), some (zI x58), some (zI x3), some (zrv v40)]) rfl rfl (zpcV rfl rfl)) ?_
                    exact zA_tr (L := [some (zrv x0), some (zI x1), some (zI x58), some (zI x3), none]) rfl rfl (zmS76_35 ih _ _ _ _ _ _ _ H)
                · cases H
                  exact zA_callX (as := [zrv x0, zrv v40]) (st' := []) rfl rfl (zrcv_Q e23 c24) rfl (zmE77 _ _) rfl rfl rfl (zmS77 C)
              · refine zA_brT' (c := x53 = 0) rfl rfl rfl c54 ?_
                exact zA_tr (L := [some (zrv x0), some (zI x1), some (zI x2), some (zI x3), none]) rfl rfl (zmS76_35 ih _ _ _ _ _ _ _ H)
            · cases H
              exact zA_callX (as := [zrv x0, zrv v40]) (st' := []) rfl rfl (zrcv_Q e23 c24) rfl (zmE64 _ _) rfl rfl rfl (zmS64 C)
          · refine zA_brT' (c := (zi h p42 i43 2) = 0) rfl rfl rfl c51 ?_
            exact zA_tr (L := [some (zrv x0), some (zI x1), some (zI x2), some (zI x3), none]) rfl rfl (zmS76_35 ih _ _ _ _ _ _ _ H)
        · refine zA_brT' (c := (zi h p46 i47 8) = x1) rfl rfl rfl c50 ?_
          exact zA_tr (L := [some (zrv x0), some (zI x1), some (zI x2), some (zI x3), none]) rfl rfl (zmS76_35 ih _ _ _ _ _ _ _ H)
      · refine zA_brT' (c := (zi h p21 i22 13) = 0) rfl rfl rfl c33 ?_
        refine zA_tr (L := [none, none, some (zI x2), none, none]) rfl rfl ?_
        refine zA_ldn rfl rfl rfl ?_
        cases H
        exact zA_ret rfl rfl
-- 76: ReleaseHouse.takeTurns(Z)I
def zm76 (x0 : zq) (x1 : Int32) (h : zH) : zRs Int32 :=
  zm76_4 zN0 x0 x1 (0 : Int32) (0 : Int32) h
theorem zmS76 {x0 : zq} {x1 : Int32} {h : zH} {r : Int32 ⊕ Nat} {h' : zH} (H : zm76 x0 x1 h = some (r, h')) : zAt 76 0 [some (zrv x0), some (zI x1), none, none, none] [] h (zoI r) h' := by
  unfold zm76 at H
  refine zA_push rfl rfl zkk7 ?_
  refine zA_istn2 rfl rfl rfl (zset1 (L' := [some (zrv x0), some (zI x1), some (zI (0 : Int32)), none, none]) rfl rfl (zpcV rfl rfl)) ?_
  refine zA_push rfl rfl zkk7 ?_
  refine zA_istn2 rfl rfl rfl (zset1 (L' := [some (zrv x0), some (zI x1), some (zI (0 : Int32)), some (zI (0 : Int32)), none]) rfl rfl (zpcV rfl rfl)) ?_
  exact zA_tr (L := [some (zrv x0), some (zI x1), some (zI (0 : Int32)), some (zI (0 : Int32)), none]) rfl rfl (zmS76_4 zN0 _ _ _ _ _ _ _ H)
theorem zmE76 (x0 : zq) (x1 : Int32) : zpad (zPr.2.1 76).1 (zil [zrv x0, zI x1]) = [some (zrv x0), some (zI x1), none, none, none] := by
  simp only [zil_A, zil_I, zil_F, zil_D, zil_N]
  rfl
def zm73_30 (k40 : zq → Int32 → Int32 → Int32 → zH → zRs Int32) : Nat → zq → Int32 → Int32 → Int32 → Int32 → zH → zRs Int32
  | 0, _, _, _, _, _, _ => none
  | n + 1, x0, x1, x2, x3, x4, h =>
    if (4 : Int32) ≤ x4 then
      k40 x0 x1 x2 x3 h
    else
      zob 11 x0 fun p22 i23 =>
      zra (zr h p22 i23 6) x4 h fun v33 =>
      zob 8 v33 fun p35 i36 =>
      zb (zm26 v33 h) fun _ h39 =>
      zlet (x4 + (1 : Int32)) fun x40 =>
      zm73_30 k40 n x0 x1 x2 x3 x40 h39
theorem zmS73_30 {k40 : zq → Int32 → Int32 → Int32 → zH → zRs Int32} (hk40 : ∀ (x0 : zq) (x1 : Int32) (x2 : Int32) (x3 : Int32) (h : zH) (r : Int32 ⊕ Nat) (h' : zH), k40 x0 x1 x2 x3 h = some (r, h') → zAt 73 40 [some (zrv x0), some (zI x1), some (zI x2), some (zI x3), none] [] h (zoI r) h') : ∀ (n : Nat) (x0 : zq) (x1 : Int32) (x2 : Int32) (x3 : Int32) (x4 : Int32) (h : zH) (r : Int32 ⊕ Nat) (h' : zH), zm73_30 k40 n x0 x1 x2 x3 x4 h = some (r, h') → zAt 73 30 [some (zrv x0), some (zI x1), some (zI x2), some (zI x3), some (zI x4)] [] h (zoI r) h' := by
  intro n
  induction n with
  | zero => intro x0 x1 x2 x3 x4 h r h' H; cases H
  | succ n ih =>
    intro x0 x1 x2 x3 x4 h r h' H
    unfold zm73_30 at H
    refine zA_ld rfl rfl rfl ?_
    refine zA_push rfl rfl zkk9 ?_
    rcases zite_e H with ⟨c21, H⟩ | ⟨c21, H⟩
    · refine zA_brT (c := (4 : Int32) ≤ x4) rfl rfl rfl c21 ?_
      exact zA_tr (L := [some (zrv x0), some (zI x1), some (zI x2), some (zI x3), none]) rfl rfl (hk40 _ _ _ _ _ _ _ H)
    · refine zA_brF (c := (4 : Int32) ≤ x4) rfl rfl rfl c21 ?_
      refine zA_aldn rfl rfl rfl ?_
      obtain ⟨p22, i23, e24, c25, H⟩ := zob_e H
      refine zA_gf3 rfl rfl e24 c25 ?_
      refine zA_ld rfl rfl rfl ?_
      obtain ⟨p26, i27, j28, v33, e29, c30, c31, e32, e34, H⟩ := zra_e H
      refine zA_aal rfl rfl e29 c30 c31 e32 e34 ?_
      obtain ⟨p35, i36, e37, c38, H⟩ := zob_e H
      rcases zb_e H with ⟨u42, h39, C, H⟩ | ⟨E, h39, C, H⟩
      · refine zA_callU (as := [zrv v33]) (st' := []) rfl rfl rfl (zrcv_Q e37 c38) rfl (zmE26 _) rfl (zmS26 C) ?_
        obtain ⟨x40, e41, H⟩ := zlet_e H
        refine zA_inc rfl rfl rfl (e41.trans (congrArg (_ + ·) zkk8)) (zset1 (L' := [some (zrv x0), some (zI x1), some (zI x2), some (zI x3), some (zI x40)]) rfl rfl (zpcV rfl rfl)) ?_
        refine zA_go rfl rfl ?_
        exact zA_tr (L := [some (zrv x0), some (zI x1), some (zI x2), some (zI x3), some (zI x40)]) rfl rfl (ih _ _ _ _ _ _ _ _ H)
      · cases H
        exact zA_callX (as := [zrv v33]) (st' := []) rfl rfl (zrcv_Q e37 c38) rfl (zmE26 _) rfl rfl rfl (zmS26 C)
def zm73_40 (k19 : zq → Int32 → Int32 → Int32 → zH → zRs Int32) (x0 : zq) (x1 : Int32) (x2 : Int32) (x3 : Int32) (h : zH) : zRs Int32 :=
  zob 11 x0 fun p21 i22 =>
  zb (zm74 x0 h) fun _ h25 =>
  zb (zm76 x0 (1 : Int32) h25) fun x27 h26 =>
  zlet (x2 + x27) fun x28 =>
  zb (zm76 x0 (0 : Int32) h26) fun x31 h30 =>
  zlet (x28 + x31) fun x32 =>
  zlet (x3 + (1 : Int32)) fun x34 =>
  k19 x0 x1 x32 x34 h30
theorem zmS73_40 {k19 : zq → Int32 → Int32 → Int32 → zH → zRs Int32} (hk19 : ∀ (x0 : zq) (x1 : Int32) (x2 : Int32) (x3 : Int32) (h : zH) (r : Int32 ⊕ Nat) (h' : zH), k19 x0 x1 x2 x3 h = some (r, h') → zAt 73 19 [some (zrv x0), some (zI x1), some (zI x2), some (zI x3), none] [] h (zoI r) h') : ∀ (x0 : zq) (x1 : Int32) (x2 : Int32) (x3 : Int32) (h : zH) (r : Int32 ⊕ Nat) (h' : zH), zm73_40 k19 x0 x1 x2 x3 h = some (r, h') → zAt 73 40 [some (zrv x0), some (zI x1), some (zI x2), some (zI x3), none] [] h (zoI r) h' := by
  intro x0 x1 x2 x3 h r h' H
  unfold zm73_40 at H
  refine zA_aldn rfl rfl rfl ?_
  obtain ⟨p21, i22, e23, c24, H⟩ := zob_e H
  rcases zb_e H with ⟨u36, h25, C, H⟩ | ⟨E, h25, C, H⟩
  · refine zA_callU (as := [zrv x0]) (st' := []) rfl rfl rfl (zrcv_Q e23 c24) rfl (zmE74 _) rfl (zmS74 C) ?_
    refine zA_ldn rfl rfl rfl ?_
    refine zA_aldn rfl rfl rfl ?_
    refine zA_push rfl rfl zkk5 ?_
    rcases zb_e H with ⟨x27, h26, C, H⟩ | ⟨E, h26, C, H⟩
    · refine zA_callV (as := [zrv x0, zI (1 : Int32)]) (st' := [zI x2]) rfl rfl rfl (zrcv_Q e23 c24) rfl (zmE76 _ _) rfl (zmS76 C) ?_
      refine zA_st (st' := [zI (x2 + x27)]) rfl rfl rfl rfl ?_
      obtain ⟨x28, e29, H⟩ := zlet_e H
      refine zA_istn2 rfl rfl e29 (zset1 (L' := [some (zrv x0), some (zI x1), some (zI x28), some (zI x3), none]) rfl rfl (zpcV rfl rfl)) ?_
      refine zA_ldn rfl rfl rfl ?_
      refine zA_aldn rfl rfl rfl ?_
      refine zA_push rfl rfl zkk7 ?_
      rcases zb_e H with ⟨x31, h30, C, H⟩ | ⟨E, h30, C, H⟩
      · refine zA_callV (as := [zrv x0, zI (0 : Int32)]) (st' := [zI x28]) rfl rfl rfl (zrcv_Q e23 c24) rfl (zmE76 _ _) rfl (zmS76 C) ?_
        refine zA_st (st' := [zI (x28 + x31)]) rfl rfl rfl rfl ?_
        obtain ⟨x32, e33, H⟩ := zlet_e H
        refine zA_istn2 rfl rfl e33 (zset1 (L' := [some (zrv x0), some (zI x1), some (zI x32), some (zI x3), none]) rfl rfl (zpcV rfl rfl)) ?_
        obtain ⟨x34, e35, H⟩ := zlet_e H
        refine zA_inc rfl rfl rfl (e35.trans (congrArg (_ + ·) zkk8)) (zset1 (L' := [some (zrv x0), some (zI x1), some (zI x32), some (zI x34), none]) rfl rfl (zpcV rfl rfl)) ?_
        refine zA_go rfl rfl ?_
        exact zA_tr (L := [some (zrv x0), some (zI x1), some (zI x32), some (zI x34), none]) rfl rfl (hk19 _ _ _ _ _ _ _ H)
      · cases H
        exact zA_callX (as := [zrv x0, zI (0 : Int32)]) (st' := [zI x28]) rfl rfl (zrcv_Q e23 c24) rfl (zmE76 _ _) rfl rfl rfl (zmS76 C)
    · cases H
      exact zA_callX (as := [zrv x0, zI (1 : Int32)]) (st' := [zI x2]) rfl rfl (zrcv_Q e23 c24) rfl (zmE76 _ _) rfl rfl rfl (zmS76 C)
  · cases H
    exact zA_callX (as := [zrv x0]) (st' := []) rfl rfl (zrcv_Q e23 c24) rfl (zmE74 _) rfl rfl rfl (zmS74 C)
def zm73_19 : Nat → zq → Int32 → Int32 → Int32 → zH → zRs Int32
  | 0, _, _, _, _, _ => none
  | n + 1, x0, x1, x2, x3, h =>
    if x1 ≤ x3 then
      some (.inl x2, h)
    else
      zob 11 x0 fun p22 i23 =>
      zlet (zsi h p22 i23 11 ((zi h p22 i23 11) + (1 : Int32))) fun h26 =>
      zm73_30 (zm73_40 (zm73_19 n)) zN0 x0 x1 x2 x3 (0 : Int32) h26
theorem zmS73_19 : ∀ (n : Nat) (x0 : zq) (x1 : Int32) (x2 : Int32) (x3 : Int32) (h : zH) (r : Int32 ⊕ Nat) (h' : zH), zm73_19 n x0 x1 x2 x3 h = some (r, h') → zAt 73 19 [some (zrv x0), some (zI x1), some (zI x2), some (zI x3), none] [] h (zoI r) h' := by
  intro n
  induction n with
  | zero => intro x0 x1 x2 x3 h r h' H; cases H
  | succ n ih =>
    intro x0 x1 x2 x3 h r h' H
    unfold zm73_19 at H
    refine zA_ldn rfl rfl rfl ?_
    refine zA_ldn rfl rfl rfl ?_
    rcases zite_e H with ⟨c21, H⟩ | ⟨c21, H⟩
    · refine zA_brT (c := x1 ≤ x3) rfl rfl rfl c21 ?_
      refine zA_tr (L := [none, none, some (zI x2), none, none]) rfl rfl ?_
      refine zA_ldn rfl rfl rfl ?_
      cases H
      exact zA_ret rfl rfl
    · refine zA_brF (c := x1 ≤ x3) rfl rfl rfl c21 ?_
      refine zA_aldn rfl rfl rfl ?_
      refine zA_dup rfl rfl (zcat_rv _) ?_
      obtain ⟨p22, i23, e24, c25, H⟩ := zob_e H
      refine zA_gf0 rfl rfl (Or.inl rfl) e24 c25 ?_
      refine zA_push rfl rfl zkk5 ?_
      refine zA_st (st' := [zI ((zi h p22 i23 11) + (1 : Int32)), zrv x0]) rfl rfl rfl rfl ?_
      obtain ⟨h26, e27, H⟩ := zlet_e H
      refine zA_pf0 rfl rfl e24 c25 e27 ?_
      refine zA_push rfl rfl zkk7 ?_
      refine zA_ist2 rfl rfl rfl (zset1 (L' := [some (zrv x0), some (zI x1), some (zI x2), some (zI x3), some (zI (0 : Int32))]) rfl rfl (zpcV rfl rfl)) ?_
      exact zA_tr (L := [some (zrv x0), some (zI x1), some (zI x2), some (zI x3), some (zI (0 : Int32))]) rfl rfl (zmS73_30 (zmS73_40 ih) zN0 _ _ _ _ _ _ _ _ H)
-- 73: ReleaseHouse.pass(I)I
def zm73 (x0 : zq) (x1 : Int32) (h : zH) : zRs Int32 :=
  zb (zm131 x1 (1 : Int32) (200 : Int32) h) fun _ h21 =>
  zob 11 x0 fun p22 i23 =>
  if ((zi h21 p22 i23 11) + x1) ≤ (20000 : Int32) then
    zm73_19 zN0 x0 x1 (0 : Int32) (0 : Int32) h21
  else
    some (.inr 1, zro h21 1 6)
theorem zmS73 {x0 : zq} {x1 : Int32} {h : zH} {r : Int32 ⊕ Nat} {h' : zH} (H : zm73 x0 x1 h = some (r, h')) : zAt 73 0 [some (zrv x0), some (zI x1), none, none, none] [] h (zoI r) h' := by
  unfold zm73 at H
  refine zA_ldn rfl rfl rfl ?_
  refine zA_push rfl rfl zkk5 ?_
  refine zA_push rfl rfl zkk4 ?_
  rcases zb_e H with ⟨u27, h21, C, H⟩ | ⟨E, h21, C, H⟩
  · refine zA_callU (as := [zI x1, zI (1 : Int32), zI (200 : Int32)]) (st' := []) rfl rfl rfl rfl rfl (zmE131 _ _ _) rfl (zmS131 C) ?_
    refine zA_aldn rfl rfl rfl ?_
    obtain ⟨p22, i23, e24, c25, H⟩ := zob_e H
    refine zA_gf0 rfl rfl (Or.inl rfl) e24 c25 ?_
    refine zA_ldn rfl rfl rfl ?_
    refine zA_st (st' := [zI ((zi h21 p22 i23 11) + x1)]) rfl rfl rfl rfl ?_
    refine zA_push rfl rfl zkk46 ?_
    rcases zite_e H with ⟨c26, H⟩ | ⟨c26, H⟩
    · refine zA_brT (c := ((zi h21 p22 i23 11) + x1) ≤ (20000 : Int32)) rfl rfl rfl c26 ?_
      refine zA_push rfl rfl zkk7 ?_
      refine zA_istn2 rfl rfl rfl (zset1 (L' := [some (zrv x0), some (zI x1), some (zI (0 : Int32)), none, none]) rfl rfl (zpcV rfl rfl)) ?_
      refine zA_push rfl rfl zkk7 ?_
      refine zA_istn2 rfl rfl rfl (zset1 (L' := [some (zrv x0), some (zI x1), some (zI (0 : Int32)), some (zI (0 : Int32)), none]) rfl rfl (zpcV rfl rfl)) ?_
      exact zA_tr (L := [some (zrv x0), some (zI x1), some (zI (0 : Int32)), some (zI (0 : Int32)), none]) rfl rfl (zmS73_19 zN0 _ _ _ _ _ _ _ H)
    · refine zA_brF (c := ((zi h21 p22 i23 11) + x1) ≤ (20000 : Int32)) rfl rfl rfl c26 ?_
      cases H
      exact zA_thr rfl rfl
  · cases H
    exact zA_callX (as := [zI x1, zI (1 : Int32), zI (200 : Int32)]) (st' := []) rfl rfl rfl rfl (zmE131 _ _ _) rfl rfl rfl (zmS131 C)
theorem zmE73 (x0 : zq) (x1 : Int32) : zpad (zPr.2.1 73).1 (zil [zrv x0, zI x1]) = [some (zrv x0), some (zI x1), none, none, none] := by
  simp only [zil_A, zil_I, zil_F, zil_D, zil_N]
  rfl
-- 253: ReleaseHouseLaw.pass(LReleaseHouse;I[J)I
def zm253 (x0 : zq) (x1 : Int32) (x2 : zq) (h : zH) : zRs Int32 :=
  zob 11 x0 fun p21 i22 =>
  zbH [(0, 7, 0, 1), (0, 7, 1, 2)] 4 (zm73 x0 x1 h) fun x26 h25 =>
  zar 3 x2 (0 : Int32) h25 fun p27 i28 j29 =>
  zlet (zsl h25 p27 i28 j29 (x26.toInt64)) fun h34 =>
  some (.inl (0 : Int32), h34)
theorem zmS253 {x0 : zq} {x1 : Int32} {x2 : zq} {h : zH} {r : Int32 ⊕ Nat} {h' : zH} (H : zm253 x0 x1 x2 h = some (r, h')) : zAt 253 0 [some (zrv x0), some (zI x1), some (zrv x2), none] [] h (zoI r) h' := by
  unfold zm253 at H
  refine zA_aldn rfl rfl rfl ?_
  refine zA_push rfl rfl zkk7 ?_
  refine zA_aldn rfl rfl rfl ?_
  refine zA_ldn rfl rfl rfl ?_
  obtain ⟨p21, i22, e23, c24, H⟩ := zob_e H
  rcases zbH_e H with ⟨x26, h25, C, H⟩ | ⟨E, h25, c36, C, hc, H⟩
  · refine zA_callV (as := [zrv x0, zI x1]) (st' := [zI (0 : Int32), zrv x2]) rfl rfl rfl (zrcv_Q e23 c24) rfl (zmE73 _ _) rfl (zmS73 C) ?_
    refine zA_st (st' := [zJ (x26.toInt64), zI (0 : Int32), zrv x2]) rfl rfl rfl rfl ?_
    obtain ⟨p27, i28, j29, e30, c31, c32, e33, H⟩ := zar_e H
    obtain ⟨h34, e35, H⟩ := zlet_e H
    refine zA_las rfl rfl e30 c31 c32 e33 e35 ?_
    refine zA_go rfl rfl ?_
    refine zA_tr (L := [none, none, none, none]) rfl rfl ?_
    refine zA_push rfl rfl zkk7 ?_
    cases H
    exact zA_ret rfl rfl
  · cases H
    exact zA_callH (as := [zrv x0, zI x1]) (st' := [zI (0 : Int32), zrv x2]) rfl rfl (zrcv_Q e23 c24) rfl (zmE73 _ _) rfl rfl rfl (List.cons_ne_nil _ _) hc (zmS73 C)
theorem zmE253 (x0 : zq) (x1 : Int32) (x2 : zq) : zpad (zPr.2.1 253).1 (zil [zrv x0, zI x1, zrv x2]) = [some (zrv x0), some (zI x1), some (zrv x2), none] := by
  simp only [zil_A, zil_I, zil_F, zil_D, zil_N]
  rfl
def zm183_64 (k7 : zq → Int32 → Int32 → zH → zRs Unit) (x0 : zq) (x1 : Int32) (x2 : Int32) (h : zH) : zRs Unit :=
  zlet (x2 + (1 : Int32)) fun x21 =>
  k7 x0 x1 x21 h
theorem zmS183_64 {k7 : zq → Int32 → Int32 → zH → zRs Unit} (hk7 : ∀ (x0 : zq) (x1 : Int32) (x2 : Int32) (h : zH) (r : Unit ⊕ Nat) (h' : zH), k7 x0 x1 x2 h = some (r, h') → zAt 183 7 [some (zrv x0), some (zI x1), some (zI x2), none] [] h (zoU r) h') : ∀ (x0 : zq) (x1 : Int32) (x2 : Int32) (h : zH) (r : Unit ⊕ Nat) (h' : zH), zm183_64 k7 x0 x1 x2 h = some (r, h') → zAt 183 64 [some (zrv x0), some (zI x1), some (zI x2), none] [] h (zoU r) h' := by
  intro x0 x1 x2 h r h' H
  unfold zm183_64 at H
  obtain ⟨x21, e22, H⟩ := zlet_e H
  refine zA_inc rfl rfl rfl (e22.trans (congrArg (_ + ·) zkk8)) (zset1 (L' := [some (zrv x0), some (zI x1), some (zI x21), none]) rfl rfl (zpcV rfl rfl)) ?_
  refine zA_go rfl rfl ?_
  exact zA_tr (L := [some (zrv x0), some (zI x1), some (zI x21), none]) rfl rfl (hk7 _ _ _ _ _ _ H)
def zm183_40 (k7 : zq → Int32 → Int32 → zH → zRs Unit) (x0 : zq) (x1 : Int32) (x2 : Int32) (x3 : Int32) (h : zH) : zRs Unit :=
  zob 12 x0 fun p21 i22 =>
  zri (zr h p21 i22 13) x3 h fun v32 =>
  if v32 = (-1 : Int32) then
    zm183_64 k7 x0 x1 x2 h
  else
    zri (zr h p21 i22 13) x3 h fun v42 =>
    zri (zr h p21 i22 9) v42 h fun v51 =>
    zri (zr h p21 i22 20) (((8 : Int32) * x1) + v51) h fun v60 =>
    zar 1 (zr h p21 i22 20) (((8 : Int32) * x1) + v51) h fun p62 i63 j64 =>
    zlet (zsi h p62 i63 j64 (v60 + (1 : Int32))) fun h69 =>
    zm183_64 k7 x0 x1 x2 h69
theorem zmS183_40 {k7 : zq → Int32 → Int32 → zH → zRs Unit} (hk7 : ∀ (x0 : zq) (x1 : Int32) (x2 : Int32) (h : zH) (r : Unit ⊕ Nat) (h' : zH), k7 x0 x1 x2 h = some (r, h') → zAt 183 7 [some (zrv x0), some (zI x1), some (zI x2), none] [] h (zoU r) h') : ∀ (x0 : zq) (x1 : Int32) (x2 : Int32) (x3 : Int32) (h : zH) (r : Unit ⊕ Nat) (h' : zH), zm183_40 k7 x0 x1 x2 x3 h = some (r, h') → zAt 183 40 [some (zrv x0), some (zI x1), some (zI x2), some (zI x3)] [] h (zoU r) h' := by
  intro x0 x1 x2 x3 h r h' H
  unfold zm183_40 at H
  refine zA_aldn rfl rfl rfl ?_
  obtain ⟨p21, i22, e23, c24, H⟩ := zob_e H
  refine zA_gf3 rfl rfl e23 c24 ?_
  refine zA_ldn rfl rfl rfl ?_
  obtain ⟨p25, i26, j27, v32, e28, c29, c30, e31, e33, H⟩ := zri_e H
  refine zA_ial rfl rfl e28 c29 c30 e31 e33 ?_
  refine zA_push rfl rfl zkk6 ?_
  rcases zite_e H with ⟨c34, H⟩ | ⟨c34, H⟩
  · refine zA_brT (c := v32 = (-1 : Int32)) rfl rfl rfl c34 ?_
    exact zA_tr (L := [some (zrv x0), some (zI x1), some (zI x2), none]) rfl rfl (zmS183_64 hk7 _ _ _ _ _ _ H)
  · refine zA_brF (c := v32 = (-1 : Int32)) rfl rfl rfl c34 ?_
    refine zA_aldn rfl rfl rfl ?_
    refine zA_gf3 rfl rfl e23 c24 ?_
    refine zA_push rfl rfl zkk0 ?_
    refine zA_ldn rfl rfl rfl ?_
    refine zA_st (st' := [zI ((8 : Int32) * x1), zrv (zr h p21 i22 20)]) rfl rfl rfl rfl ?_
    refine zA_aldn rfl rfl rfl ?_
    refine zA_gf3 rfl rfl e23 c24 ?_
    refine zA_aldn rfl rfl rfl ?_
    refine zA_gf3 rfl rfl e23 c24 ?_
    refine zA_ldn rfl rfl rfl ?_
    obtain ⟨p35, i36, j37, v42, e38, c39, c40, e41, e43, H⟩ := zri_e H
    refine zA_ial rfl rfl e38 c39 c40 e41 e43 ?_
    obtain ⟨p44, i45, j46, v51, e47, c48, c49, e50, e52, H⟩ := zri_e H
    refine zA_ial rfl rfl e47 c48 c49 e50 e52 ?_
    refine zA_st (st' := [zI (((8 : Int32) * x1) + v51), zrv (zr h p21 i22 20)]) rfl rfl rfl rfl ?_
    refine zA_dup2 rfl rfl rfl (zcat_rv _) ?_
    obtain ⟨p53, i54, j55, v60, e56, c57, c58, e59, e61, H⟩ := zri_e H
    refine zA_ial rfl rfl e56 c57 c58 e59 e61 ?_
    refine zA_push rfl rfl zkk5 ?_
    refine zA_st (st' := [zI (v60 + (1 : Int32)), zI (((8 : Int32) * x1) + v51), zrv (zr h p21 i22 20)]) rfl rfl rfl rfl ?_
    obtain ⟨p62, i63, j64, e65, c66, c67, e68, H⟩ := zar_e H
    obtain ⟨h69, e70, H⟩ := zlet_e H
    refine zA_ias rfl rfl e65 c66 c67 e68 e70 ?_
    exact zA_tr (L := [some (zrv x0), some (zI x1), some (zI x2), none]) rfl rfl (zmS183_64 hk7 _ _ _ _ _ _ H)
def zm183_7 (k66 : zq → Int32 → zH → zRs Unit) : Nat → zq → Int32 → Int32 → zH → zRs Unit
  | 0, _, _, _, _ => none
  | n + 1, x0, x1, x2, h =>
    if (3 : Int32) ≤ x2 then
      k66 x0 x1 h
    else
      zlet (((3 : Int32) * x1) + x2) fun x22 =>
      zob 12 x0 fun p24 i25 =>
      zri (zr h p24 i25 12) x22 h fun v35 =>
      if v35 = (-1 : Int32) then
        zm183_40 (zm183_7 k66 n) x0 x1 x2 x22 h
      else
        zri (zr h p24 i25 12) x22 h fun v45 =>
        zri (zr h p24 i25 9) v45 h fun v54 =>
        zri (zr h p24 i25 20) (((8 : Int32) * x1) + v54) h fun v63 =>
        zar 1 (zr h p24 i25 20) (((8 : Int32) * x1) + v54) h fun p65 i66 j67 =>
        zlet (zsi h p65 i66 j67 (v63 + (1 : Int32))) fun h72 =>
        zm183_40 (zm183_7 k66 n) x0 x1 x2 x22 h72
theorem zmS183_7 {k66 : zq → Int32 → zH → zRs Unit} (hk66 : ∀ (x0 : zq) (x1 : Int32) (h : zH) (r : Unit ⊕ Nat) (h' : zH), k66 x0 x1 h = some (r, h') → zAt 183 66 [some (zrv x0), some (zI x1), none, none] [] h (zoU r) h') : ∀ (n : Nat) (x0 : zq) (x1 : Int32) (x2 : Int32) (h : zH) (r : Unit ⊕ Nat) (h' : zH), zm183_7 k66 n x0 x1 x2 h = some (r, h') → zAt 183 7 [some (zrv x0), some (zI x1), some (zI x2), none] [] h (zoU r) h' := by
  intro n
  induction n with
  | zero => intro x0 x1 x2 h r h' H; cases H
  | succ n ih =>
    intro x0 x1 x2 h r h' H
    unfold zm183_7 at H
    refine zA_ldn rfl rfl rfl ?_
    refine zA_push rfl rfl zkk3 ?_
    rcases zite_e H with ⟨c21, H⟩ | ⟨c21, H⟩
    · refine zA_brT (c := (3 : Int32) ≤ x2) rfl rfl rfl c21 ?_
      exact zA_tr (L := [some (zrv x0), some (zI x1), none, none]) rfl rfl (hk66 _ _ _ _ _ H)
    · refine zA_brF (c := (3 : Int32) ≤ x2) rfl rfl rfl c21 ?_
      refine zA_push rfl rfl zkk3 ?_
      refine zA_ldn rfl rfl rfl ?_
      refine zA_st (st' := [zI ((3 : Int32) * x1)]) rfl rfl rfl rfl ?_
      refine zA_ldn rfl rfl rfl ?_
      refine zA_st (st' := [zI (((3 : Int32) * x1) + x2)]) rfl rfl rfl rfl ?_
      obtain ⟨x22, e23, H⟩ := zlet_e H
      refine zA_istn2 rfl rfl e23 (zset1 (L' := [some (zrv x0), some (zI x1), some (zI x2), some (zI x22)]) rfl rfl (zpcV rfl rfl)) ?_
      refine zA_aldn rfl rfl rfl ?_
      obtain ⟨p24, i25, e26, c27, H⟩ := zob_e H
      refine zA_gf3 rfl rfl e26 c27 ?_
      refine zA_ldn rfl rfl rfl ?_
      obtain ⟨p28, i29, j30, v35, e31, c32, c33, e34, e36, H⟩ := zri_e H
      refine zA_ial rfl rfl e31 c32 c33 e34 e36 ?_
      refine zA_push rfl rfl zkk6 ?_
      rcases zite_e H with ⟨c37, H⟩ | ⟨c37, H⟩
      · refine zA_brT (c := v35 = (-1 : Int32)) rfl rfl rfl c37 ?_
        exact zA_tr (L := [some (zrv x0), some (zI x1), some (zI x2), some (zI x22)]) rfl rfl (zmS183_40 ih _ _ _ _ _ _ _ H)
      · refine zA_brF (c := v35 = (-1 : Int32)) rfl rfl rfl c37 ?_
        refine zA_aldn rfl rfl rfl ?_
        refine zA_gf3 rfl rfl e26 c27 ?_
        refine zA_push rfl rfl zkk0 ?_
        refine zA_ldn rfl rfl rfl ?_
        refine zA_st (st' := [zI ((8 : Int32) * x1), zrv (zr h p24 i25 20)]) rfl rfl rfl rfl ?_
        refine zA_aldn rfl rfl rfl ?_
        refine zA_gf3 rfl rfl e26 c27 ?_
        refine zA_aldn rfl rfl rfl ?_
        refine zA_gf3 rfl rfl e26 c27 ?_
        refine zA_ldn rfl rfl rfl ?_
        obtain ⟨p38, i39, j40, v45, e41, c42, c43, e44, e46, H⟩ := zri_e H
        refine zA_ial rfl rfl e41 c42 c43 e44 e46 ?_
        obtain ⟨p47, i48, j49, v54, e50, c51, c52, e53, e55, H⟩ := zri_e H
        refine zA_ial rfl rfl e50 c51 c52 e53 e55 ?_
        refine zA_st (st' := [zI (((8 : Int32) * x1) + v54), zrv (zr h p24 i25 20)]) rfl rfl rfl rfl ?_
        refine zA_dup2 rfl rfl rfl (zcat_rv _) ?_
        obtain ⟨p56, i57, j58, v63, e59, c60, c61, e62, e64, H⟩ := zri_e H
        refine zA_ial rfl rfl e59 c60 c61 e62 e64 ?_
        refine zA_push rfl rfl zkk5 ?_
        refine zA_st (st' := [zI (v63 + (1 : Int32)), zI (((8 : Int32) * x1) + v54), zrv (zr h p24 i25 20)]) rfl rfl rfl rfl ?_
        obtain ⟨p65, i66, j67, e68, c69, c70, e71, H⟩ := zar_e H
        obtain ⟨h72, e73, H⟩ := zlet_e H
        refine zA_ias rfl rfl e68 c69 c70 e71 e73 ?_
        exact zA_tr (L := [some (zrv x0), some (zI x1), some (zI x2), some (zI x22)]) rfl rfl (zmS183_40 ih _ _ _ _ _ _ _ H)
def zm183_137 (k2 : zq → Int32 → zH → zRs Unit) (x0 : zq) (x1 : Int32) (h : zH) : zRs Unit :=
  zlet (x1 + (1 : Int32)) fun x21 =>
  k2 x0 x21 h
theorem zmS183_137 {k2 : zq → Int32 → zH → zRs Unit} (hk2 : ∀ (x0 : zq) (x1 : Int32) (h : zH) (r : Unit ⊕ Nat) (h' : zH), k2 x0 x1 h = some (r, h') → zAt 183 2 [some (zrv x0), some (zI x1), none, none] [] h (zoU r) h') : ∀ (x0 : zq) (x1 : Int32) (h : zH) (r : Unit ⊕ Nat) (h' : zH), zm183_137 k2 x0 x1 h = some (r, h') → zAt 183 137 [some (zrv x0), some (zI x1), none, none] [] h (zoU r) h' := by
  intro x0 x1 h r h' H
  unfold zm183_137 at H
  obtain ⟨x21, e22, H⟩ := zlet_e H
  refine zA_inc rfl rfl rfl (e22.trans (congrArg (_ + ·) zkk8)) (zset1 (L' := [some (zrv x0), some (zI x21), none, none]) rfl rfl (zpcV rfl (zcat_rv _))) ?_
  refine zA_go rfl rfl ?_
  exact zA_tr (L := [some (zrv x0), some (zI x21), none, none]) rfl rfl (hk2 _ _ _ _ _ H)
def zm183_98 (k2 : zq → Int32 → zH → zRs Unit) (x0 : zq) (x1 : Int32) (s0 : Int32) (h : zH) : zRs Unit :=
  zob 12 x0 fun p21 i22 =>
  zri (zr h p21 i22 22) x1 h fun v32 =>
  zri (zr h p21 i22 20) (((8 : Int32) * x1) + v32) h fun v41 =>
  zar 1 (zr h p21 i22 20) (((8 : Int32) * x1) + v32) h fun p43 i44 j45 =>
  zlet (zsi h p43 i44 j45 (v41 - s0)) fun h50 =>
  zri (zr h50 p21 i22 23) x1 h50 fun v59 =>
  zri (zr h50 p21 i22 20) (((8 : Int32) * x1) + v59) h50 fun v68 =>
  zar 1 (zr h50 p21 i22 20) (((8 : Int32) * x1) + v59) h50 fun p70 i71 j72 =>
  zlet (zsi h50 p70 i71 j72 (v68 + s0)) fun h77 =>
  zri (zr h77 p21 i22 24) x1 h77 fun v86 =>
  zar 1 (zr h77 p21 i22 24) x1 h77 fun p88 i89 j90 =>
  zlet (zsi h77 p88 i89 j90 (v86 + s0)) fun h95 =>
  zm183_137 k2 x0 x1 h95
theorem zmS183_98 {k2 : zq → Int32 → zH → zRs Unit} (hk2 : ∀ (x0 : zq) (x1 : Int32) (h : zH) (r : Unit ⊕ Nat) (h' : zH), k2 x0 x1 h = some (r, h') → zAt 183 2 [some (zrv x0), some (zI x1), none, none] [] h (zoU r) h') : ∀ (x0 : zq) (x1 : Int32) (s0 : Int32) (h : zH) (r : Unit ⊕ Nat) (h' : zH), zm183_98 k2 x0 x1 s0 h = some (r, h') → zAt 183 98 [some (zrv x0), some (zI x1), none, none] [zI s0] h (zoU r) h' := by
  intro x0 x1 s0 h r h' H
  unfold zm183_98 at H
  refine zA_istn2 rfl rfl rfl (zset1 (L' := [some (zrv x0), some (zI x1), some (zI s0), none]) rfl rfl (zpcV rfl rfl)) ?_
  refine zA_aldn rfl rfl rfl ?_
  obtain ⟨p21, i22, e23, c24, H⟩ := zob_e H
  refine zA_gf3 rfl rfl e23 c24 ?_
  refine zA_push rfl rfl zkk0 ?_
  refine zA_ldn rfl rfl rfl ?_
  refine zA_st (st' := [zI ((8 : Int32) * x1), zrv (zr h p21 i22 20)]) rfl rfl rfl rfl ?_
  refine zA_aldn rfl rfl rfl ?_
  refine zA_gf3 rfl rfl e23 c24 ?_
  refine zA_ldn rfl rfl rfl ?_
  obtain ⟨p25, i26, j27, v32, e28, c29, c30, e31, e33, H⟩ := zri_e H
  refine zA_ial rfl rfl e28 c29 c30 e31 e33 ?_
  refine zA_st (st' := [zI (((8 : Int32) * x1) + v32), zrv (zr h p21 i22 20)]) rfl rfl rfl rfl ?_
  refine zA_dup2 rfl rfl rfl (zcat_rv _) ?_
  obtain ⟨p34, i35, j36, v41, e37, c38, c39, e40, e42, H⟩ := zri_e H
  refine zA_ial rfl rfl e37 c38 c39 e40 e42 ?_
  refine zA_ldn rfl rfl rfl ?_
  refine zA_st (st' := [zI (v41 - s0), zI (((8 : Int32) * x1) + v32), zrv (zr h p21 i22 20)]) rfl rfl rfl rfl ?_
  obtain ⟨p43, i44, j45, e46, c47, c48, e49, H⟩ := zar_e H
  obtain ⟨h50, e51, H⟩ := zlet_e H
  refine zA_ias rfl rfl e46 c47 c48 e49 e51 ?_
  refine zA_aldn rfl rfl rfl ?_
  refine zA_gf3 rfl rfl e23 c24 ?_
  refine zA_push rfl rfl zkk0 ?_
  refine zA_ldn rfl rfl rfl ?_
  refine zA_st (st' := [zI ((8 : Int32) * x1), zrv (zr h50 p21 i22 20)]) rfl rfl rfl rfl ?_
  refine zA_aldn rfl rfl rfl ?_
  refine zA_gf3 rfl rfl e23 c24 ?_
  refine zA_ldn rfl rfl rfl ?_
  obtain ⟨p52, i53, j54, v59, e55, c56, c57, e58, e60, H⟩ := zri_e H
  refine zA_ial rfl rfl e55 c56 c57 e58 e60 ?_
  refine zA_st (st' := [zI (((8 : Int32) * x1) + v59), zrv (zr h50 p21 i22 20)]) rfl rfl rfl rfl ?_
  refine zA_dup2 rfl rfl rfl (zcat_rv _) ?_
  obtain ⟨p61, i62, j63, v68, e64, c65, c66, e67, e69, H⟩ := zri_e H
  refine zA_ial rfl rfl e64 c65 c66 e67 e69 ?_
  refine zA_ldn rfl rfl rfl ?_
  refine zA_st (st' := [zI (v68 + s0), zI (((8 : Int32) * x1) + v59), zrv (zr h50 p21 i22 20)]) rfl rfl rfl rfl ?_
  obtain ⟨p70, i71, j72, e73, c74, c75, e76, H⟩ := zar_e H
  obtain ⟨h77, e78, H⟩ := zlet_e H
  refine zA_ias rfl rfl e73 c74 c75 e76 e78 ?_
  refine zA_aldn rfl rfl rfl ?_
  refine zA_gf3 rfl rfl e23 c24 ?_
  refine zA_ldn rfl rfl rfl ?_
  refine zA_dup2 rfl rfl rfl (zcat_rv _) ?_
  obtain ⟨p79, i80, j81, v86, e82, c83, c84, e85, e87, H⟩ := zri_e H
  refine zA_ial rfl rfl e82 c83 c84 e85 e87 ?_
  refine zA_ldn rfl rfl rfl ?_
  refine zA_st (st' := [zI (v86 + s0), zI x1, zrv (zr h77 p21 i22 24)]) rfl rfl rfl rfl ?_
  obtain ⟨p88, i89, j90, e91, c92, c93, e94, H⟩ := zar_e H
  obtain ⟨h95, e96, H⟩ := zlet_e H
  refine zA_ias rfl rfl e91 c92 c93 e94 e96 ?_
  exact zA_tr (L := [some (zrv x0), some (zI x1), none, none]) rfl rfl (zmS183_137 hk2 _ _ _ _ _ H)
def zm183_66 (k2 : zq → Int32 → zH → zRs Unit) (x0 : zq) (x1 : Int32) (h : zH) : zRs Unit :=
  zob 12 x0 fun p21 i22 =>
  zri (zr h p21 i22 23) x1 h fun v32 =>
  if v32 = (-1 : Int32) then
    zm183_137 k2 x0 x1 h
  else
    zri (zr h p21 i22 22) x1 h fun v42 =>
    zri (zr h p21 i22 20) (((8 : Int32) * x1) + v42) h fun v51 =>
    if (5 : Int32) ≤ v51 then
      zm183_98 k2 x0 x1 (5 : Int32) h
    else
      zri (zr h p21 i22 22) x1 h fun v61 =>
      zri (zr h p21 i22 20) (((8 : Int32) * x1) + v61) h fun v70 =>
      zm183_98 k2 x0 x1 v70 h
theorem zmS183_66 {k2 : zq → Int32 → zH → zRs Unit} (hk2 : ∀ (x0 : zq) (x1 : Int32) (h : zH) (r : Unit ⊕ Nat) (h' : zH), k2 x0 x1 h = some (r, h') → zAt 183 2 [some (zrv x0), some (zI x1), none, none] [] h (zoU r) h') : ∀ (x0 : zq) (x1 : Int32) (h : zH) (r : Unit ⊕ Nat) (h' : zH), zm183_66 k2 x0 x1 h = some (r, h') → zAt 183 66 [some (zrv x0), some (zI x1), none, none] [] h (zoU r) h' := by
  intro x0 x1 h r h' H
  unfold zm183_66 at H
  refine zA_aldn rfl rfl rfl ?_
  obtain ⟨p21, i22, e23, c24, H⟩ := zob_e H
  refine zA_gf3 rfl rfl e23 c24 ?_
  refine zA_ldn rfl rfl rfl ?_
  obtain ⟨p25, i26, j27, v32, e28, c29, c30, e31, e33, H⟩ := zri_e H
  refine zA_ial rfl rfl e28 c29 c30 e31 e33 ?_
  refine zA_push rfl rfl zkk6 ?_
  rcases zite_e H with ⟨c34, H⟩ | ⟨c34, H⟩
  · refine zA_brT (c := v32 = (-1 : Int32)) rfl rfl rfl c34 ?_
    exact zA_tr (L := [some (zrv x0), some (zI x1), none, none]) rfl rfl (zmS183_137 hk2 _ _ _ _ _ H)
  · refine zA_brF (c := v32 = (-1 : Int32)) rfl rfl rfl c34 ?_
    refine zA_aldn rfl rfl rfl ?_
    refine zA_gf3 rfl rfl e23 c24 ?_
    refine zA_push rfl rfl zkk0 ?_
    refine zA_ldn rfl rfl rfl ?_
    refine zA_st (st' := [zI ((8 : Int32) * x1), zrv (zr h p21 i22 20)]) rfl rfl rfl rfl ?_
    refine zA_aldn rfl rfl rfl ?_
    refine zA_gf3 rfl rfl e23 c24 ?_
    refine zA_ldn rfl rfl rfl ?_
    obtain ⟨p35, i36, j37, v42, e38, c39, c40, e41, e43, H⟩ := zri_e H
    refine zA_ial rfl rfl e38 c39 c40 e41 e43 ?_
    refine zA_st (st' := [zI (((8 : Int32) * x1) + v42), zrv (zr h p21 i22 20)]) rfl rfl rfl rfl ?_
    obtain ⟨p44, i45, j46, v51, e47, c48, c49, e50, e52, H⟩ := zri_e H
    refine zA_ial rfl rfl e47 c48 c49 e50 e52 ?_
    refine zA_push rfl rfl zkk20 ?_
    rcases zite_e H with ⟨c53, H⟩ | ⟨c53, H⟩
    · refine zA_brT (c := (5 : Int32) ≤ v51) rfl rfl rfl c53 ?_
      refine zA_push rfl rfl zkk20 ?_
      exact zA_tr (L := [some (zrv x0), some (zI x1), none, none]) rfl rfl (zmS183_98 hk2 _ _ _ _ _ _ H)
    · refine zA_brF (c := (5 : Int32) ≤ v51) rfl rfl rfl c53 ?_
      refine zA_aldn rfl rfl rfl ?_
      refine zA_gf3 rfl rfl e23 c24 ?_
      refine zA_push rfl rfl zkk0 ?_
      refine zA_ldn rfl rfl rfl ?_
      refine zA_st (st' := [zI ((8 : Int32) * x1), zrv (zr h p21 i22 20)]) rfl rfl rfl rfl ?_
      refine zA_aldn rfl rfl rfl ?_
      refine zA_gf3 rfl rfl e23 c24 ?_
      refine zA_ldn rfl rfl rfl ?_
      obtain ⟨p54, i55, j56, v61, e57, c58, c59, e60, e62, H⟩ := zri_e H
      refine zA_ial rfl rfl e57 c58 c59 e60 e62 ?_
      refine zA_st (st' := [zI (((8 : Int32) * x1) + v61), zrv (zr h p21 i22 20)]) rfl rfl rfl rfl ?_
      obtain ⟨p63, i64, j65, v70, e66, c67, c68, e69, e71, H⟩ := zri_e H
      refine zA_ial rfl rfl e66 c67 c68 e69 e71 ?_
      refine zA_go rfl rfl ?_
      exact zA_tr (L := [some (zrv x0), some (zI x1), none, none]) rfl rfl (zmS183_98 hk2 _ _ _ _ _ _ H)
def zm183_2 : Nat → zq → Int32 → zH → zRs Unit
  | 0, _, _, _ => none
  | n + 1, x0, x1, h =>
    if (4 : Int32) ≤ x1 then
      some (.inl (), h)
    else
      zm183_7 (zm183_66 (zm183_2 n)) zN0 x0 x1 (0 : Int32) h
theorem zmS183_2 : ∀ (n : Nat) (x0 : zq) (x1 : Int32) (h : zH) (r : Unit ⊕ Nat) (h' : zH), zm183_2 n x0 x1 h = some (r, h') → zAt 183 2 [some (zrv x0), some (zI x1), none, none] [] h (zoU r) h' := by
  intro n
  induction n with
  | zero => intro x0 x1 h r h' H; cases H
  | succ n ih =>
    intro x0 x1 h r h' H
    unfold zm183_2 at H
    refine zA_ldn rfl rfl rfl ?_
    refine zA_push rfl rfl zkk9 ?_
    rcases zite_e H with ⟨c21, H⟩ | ⟨c21, H⟩
    · refine zA_brT (c := (4 : Int32) ≤ x1) rfl rfl rfl c21 ?_
      refine zA_tr (L := [none, none, none, none]) rfl rfl ?_
      cases H
      exact zA_ret rfl rfl
    · refine zA_brF (c := (4 : Int32) ≤ x1) rfl rfl rfl c21 ?_
      refine zA_push rfl rfl zkk7 ?_
      refine zA_istn2 rfl rfl rfl (zset1 (L' := [some (zrv x0), some (zI x1), some (zI (0 : Int32)), none]) rfl rfl (zpcV rfl rfl)) ?_
      exact zA_tr (L := [some (zrv x0), some (zI x1), some (zI (0 : Int32)), none]) rfl rfl (zmS183_7 (zmS183_66 ih) zN0 _ _ _ _ _ _ H)
-- 183: ReleaseHouseModel.data()V
def zm183 (x0 : zq) (h : zH) : zRs Unit :=
  zm183_2 zN0 x0 (0 : Int32) h
theorem zmS183 {x0 : zq} {h : zH} {r : Unit ⊕ Nat} {h' : zH} (H : zm183 x0 h = some (r, h')) : zAt 183 0 [some (zrv x0), none, none, none] [] h (zoU r) h' := by
  unfold zm183 at H
  refine zA_push rfl rfl zkk7 ?_
  refine zA_istn2 rfl rfl rfl (zset1 (L' := [some (zrv x0), some (zI (0 : Int32)), none, none]) rfl rfl (zpcV rfl (zcat_rv _))) ?_
  exact zA_tr (L := [some (zrv x0), some (zI (0 : Int32)), none, none]) rfl rfl (zmS183_2 zN0 _ _ _ _ _ H)
theorem zmE183 (x0 : zq) : zpad (zPr.2.1 183).1 (zil [zrv x0]) = [some (zrv x0), none, none, none] := by
  simp only [zil_A, zil_I, zil_F, zil_D, zil_N]
  rfl
def zm184_86 (k20 : zq → Int32 → Int32 → zH → zRs Unit) (x0 : zq) (x1 : Int32) (x2 : Int32) (h : zH) : zRs Unit :=
  zlet (x2 + (1 : Int32)) fun x21 =>
  k20 x0 x1 x21 h
theorem zmS184_86 {k20 : zq → Int32 → Int32 → zH → zRs Unit} (hk20 : ∀ (x0 : zq) (x1 : Int32) (x2 : Int32) (h : zH) (r : Unit ⊕ Nat) (h' : zH), k20 x0 x1 x2 h = some (r, h') → zAt 184 20 [some (zrv x0), some (zI x1), some (zI x2), none] [] h (zoU r) h') : ∀ (x0 : zq) (x1 : Int32) (x2 : Int32) (h : zH) (r : Unit ⊕ Nat) (h' : zH), zm184_86 k20 x0 x1 x2 h = some (r, h') → zAt 184 86 [some (zrv x0), some (zI x1), some (zI x2), none] [] h (zoU r) h' := by
  intro x0 x1 x2 h r h' H
  unfold zm184_86 at H
  obtain ⟨x21, e22, H⟩ := zlet_e H
  refine zA_inc rfl rfl rfl (e22.trans (congrArg (_ + ·) zkk8)) (zset1 (L' := [some (zrv x0), some (zI x1), some (zI x21), none]) rfl rfl (zpcV rfl rfl)) ?_
  refine zA_go rfl rfl ?_
  exact zA_tr (L := [some (zrv x0), some (zI x1), some (zI x21), none]) rfl rfl (hk20 _ _ _ _ _ _ H)
def zm184_84 (k20 : zq → Int32 → Int32 → zH → zRs Unit) (x0 : zq) (x1 : Int32) (x2 : Int32) (s0 : zq) (s1 : Int32) (s2 : Int32) (s3 : Int32) (h : zH) : zRs Unit :=
  zar 1 s0 s1 h fun p21 i22 j23 =>
  zlet (zsi h p21 i22 j23 (s2 + s3)) fun h28 =>
  zm184_86 k20 x0 x1 x2 h28
theorem zmS184_84 {k20 : zq → Int32 → Int32 → zH → zRs Unit} (hk20 : ∀ (x0 : zq) (x1 : Int32) (x2 : Int32) (h : zH) (r : Unit ⊕ Nat) (h' : zH), k20 x0 x1 x2 h = some (r, h') → zAt 184 20 [some (zrv x0), some (zI x1), some (zI x2), none] [] h (zoU r) h') : ∀ (x0 : zq) (x1 : Int32) (x2 : Int32) (s0 : zq) (s1 : Int32) (s2 : Int32) (s3 : Int32) (h : zH) (r : Unit ⊕ Nat) (h' : zH), zm184_84 k20 x0 x1 x2 s0 s1 s2 s3 h = some (r, h') → zAt 184 84 [some (zrv x0), some (zI x1), some (zI x2), none] [zI s3, zI s2, zI s1, zrv s0] h (zoU r) h' := by
  intro x0 x1 x2 s0 s1 s2 s3 h r h' H
  unfold zm184_84 at H
  refine zA_st (st' := [zI (s2 + s3), zI s1, zrv s0]) rfl rfl rfl rfl ?_
  obtain ⟨p21, i22, j23, e24, c25, c26, e27, H⟩ := zar_e H
  obtain ⟨h28, e29, H⟩ := zlet_e H
  refine zA_ias rfl rfl e24 c25 c26 e27 e29 ?_
  exact zA_tr (L := [some (zrv x0), some (zI x1), some (zI x2), none]) rfl rfl (zmS184_86 hk20 _ _ _ _ _ _ H)
def zm184_73 (k20 : zq → Int32 → Int32 → zH → zRs Unit) (x0 : zq) (x1 : Int32) (x2 : Int32) (x3 : Int32) (s0 : zq) (s1 : Int32) (s2 : Int32) (h : zH) : zRs Unit :=
  zar 2 s0 s1 h fun p21 i22 j23 =>
  zif (s2 = 0 ∨ s2 = 1) <|
  zlet (zsi h p21 i22 j23 s2) fun h28 =>
  zob 12 x0 fun p31 i32 =>
  zri (zr h28 p31 i32 60) x1 h28 fun v42 =>
  if x3 = 0 then
    zm184_84 k20 x0 x1 x2 (zr h28 p31 i32 60) x1 v42 (0 : Int32) h28
  else
    zm184_84 k20 x0 x1 x2 (zr h28 p31 i32 60) x1 v42 (1 : Int32) h28
theorem zmS184_73 {k20 : zq → Int32 → Int32 → zH → zRs Unit} (hk20 : ∀ (x0 : zq) (x1 : Int32) (x2 : Int32) (h : zH) (r : Unit ⊕ Nat) (h' : zH), k20 x0 x1 x2 h = some (r, h') → zAt 184 20 [some (zrv x0), some (zI x1), some (zI x2), none] [] h (zoU r) h') : ∀ (x0 : zq) (x1 : Int32) (x2 : Int32) (x3 : Int32) (s0 : zq) (s1 : Int32) (s2 : Int32) (h : zH) (r : Unit ⊕ Nat) (h' : zH), zm184_73 k20 x0 x1 x2 x3 s0 s1 s2 h = some (r, h') → zAt 184 73 [some (zrv x0), some (zI x1), some (zI x2), some (zI x3)] [zI s2, zI s1, zrv s0] h (zoU r) h' := by
  intro x0 x1 x2 x3 s0 s1 s2 h r h' H
  unfold zm184_73 at H
  obtain ⟨p21, i22, j23, e24, c25, c26, e27, H⟩ := zar_e H
  obtain ⟨c30, H⟩ := zif_e H
  obtain ⟨h28, e29, H⟩ := zlet_e H
  refine zA_bas rfl rfl e24 c25 c26 e27 c30 e29 ?_
  refine zA_aldn rfl rfl rfl ?_
  obtain ⟨p31, i32, e33, c34, H⟩ := zob_e H
  refine zA_gf3 rfl rfl e33 c34 ?_
  refine zA_ldn rfl rfl rfl ?_
  refine zA_dup2 rfl rfl rfl (zcat_rv _) ?_
  obtain ⟨p35, i36, j37, v42, e38, c39, c40, e41, e43, H⟩ := zri_e H
  refine zA_ial rfl rfl e38 c39 c40 e41 e43 ?_
  refine zA_ldn rfl rfl rfl ?_
  rcases zite_e H with ⟨c44, H⟩ | ⟨c44, H⟩
  · refine zA_brT (c := x3 = 0) rfl rfl rfl c44 ?_
    refine zA_tr (L := [some (zrv x0), some (zI x1), some (zI x2), none]) rfl rfl ?_
    refine zA_push rfl rfl zkk7 ?_
    exact zA_tr (L := [some (zrv x0), some (zI x1), some (zI x2), none]) rfl rfl (zmS184_84 hk20 _ _ _ _ _ _ _ _ _ _ H)
  · refine zA_brF (c := x3 = 0) rfl rfl rfl c44 ?_
    refine zA_push rfl rfl zkk5 ?_
    refine zA_go rfl rfl ?_
    exact zA_tr (L := [some (zrv x0), some (zI x1), some (zI x2), none]) rfl rfl (zmS184_84 hk20 _ _ _ _ _ _ _ _ _ _ H)
def zm184_48 (k20 : zq → Int32 → Int32 → zH → zRs Unit) (x0 : zq) (x1 : Int32) (x2 : Int32) (s0 : Int32) (h : zH) : zRs Unit :=
  zob 12 x0 fun p21 i22 =>
  zri (zr h p21 i22 40) x2 h fun v32 =>
  if v32 = x1 then
    zar 1 (zr h p21 i22 40) x2 h fun p35 i36 j37 =>
    zlet (zsi h p35 i36 j37 (-1 : Int32)) fun h42 =>
    zrb (zr h42 p21 i22 37) x2 h42 fun v51 =>
    if v51 = 0 then
      if s0 = 0 then
        zm184_73 k20 x0 x1 x2 s0 (zr h42 p21 i22 37) x2 (0 : Int32) h42
      else
        zm184_73 k20 x0 x1 x2 s0 (zr h42 p21 i22 37) x2 (1 : Int32) h42
    else
      zm184_73 k20 x0 x1 x2 s0 (zr h42 p21 i22 37) x2 (1 : Int32) h42
  else
    zm184_86 k20 x0 x1 x2 h
theorem zmS184_48 {k20 : zq → Int32 → Int32 → zH → zRs Unit} (hk20 : ∀ (x0 : zq) (x1 : Int32) (x2 : Int32) (h : zH) (r : Unit ⊕ Nat) (h' : zH), k20 x0 x1 x2 h = some (r, h') → zAt 184 20 [some (zrv x0), some (zI x1), some (zI x2), none] [] h (zoU r) h') : ∀ (x0 : zq) (x1 : Int32) (x2 : Int32) (s0 : Int32) (h : zH) (r : Unit ⊕ Nat) (h' : zH), zm184_48 k20 x0 x1 x2 s0 h = some (r, h') → zAt 184 48 [some (zrv x0), some (zI x1), some (zI x2), none] [zI s0] h (zoU r) h' := by
  intro x0 x1 x2 s0 h r h' H
  unfold zm184_48 at H
  refine zA_istn2 rfl rfl rfl (zset1 (L' := [some (zrv x0), some (zI x1), some (zI x2), some (zI s0)]) rfl rfl (zpcV rfl rfl)) ?_
  refine zA_aldn rfl rfl rfl ?_
  obtain ⟨p21, i22, e23, c24, H⟩ := zob_e H
  refine zA_gf3 rfl rfl e23 c24 ?_
  refine zA_ldn rfl rfl rfl ?_
  obtain ⟨p25, i26, j27, v32, e28, c29, c30, e31, e33, H⟩ := zri_e H
  refine zA_ial rfl rfl e28 c29 c30 e31 e33 ?_
  refine zA_ldn rfl rfl rfl ?_
  rcases zite_e H with ⟨c34, H⟩ | ⟨c34, H⟩
  · refine zA_brF' (c := v32 = x1) rfl rfl rfl c34 ?_
    refine zA_aldn rfl rfl rfl ?_
    refine zA_gf3 rfl rfl e23 c24 ?_
    refine zA_ldn rfl rfl rfl ?_
    refine zA_push rfl rfl zkk6 ?_
    obtain ⟨p35, i36, j37, e38, c39, c40, e41, H⟩ := zar_e H
    obtain ⟨h42, e43, H⟩ := zlet_e H
    refine zA_ias rfl rfl e38 c39 c40 e41 e43 ?_
    refine zA_aldn rfl rfl rfl ?_
    refine zA_gf3 rfl rfl e23 c24 ?_
    refine zA_ldn rfl rfl rfl ?_
    refine zA_aldn rfl rfl rfl ?_
    refine zA_gf3 rfl rfl e23 c24 ?_
    refine zA_ldn rfl rfl rfl ?_
    obtain ⟨p44, i45, j46, v51, e47, c48, c49, e50, e52, H⟩ := zrb_e H
    refine zA_bal rfl rfl e47 c48 c49 e50 e52 ?_
    rcases zite_e H with ⟨c53, H⟩ | ⟨c53, H⟩
    · refine zA_brF' (c := v51 = 0) rfl rfl rfl c53 ?_
      refine zA_ldn rfl rfl rfl ?_
      rcases zite_e H with ⟨c54, H⟩ | ⟨c54, H⟩
      · refine zA_brT (c := s0 = 0) rfl rfl rfl c54 ?_
        refine zA_push rfl rfl zkk7 ?_
        exact zA_tr (L := [some (zrv x0), some (zI x1), some (zI x2), some (zI s0)]) rfl rfl (zmS184_73 hk20 _ _ _ _ _ _ _ _ _ _ H)
      · refine zA_brF (c := s0 = 0) rfl rfl rfl c54 ?_
        refine zA_push rfl rfl zkk5 ?_
        refine zA_go rfl rfl ?_
        exact zA_tr (L := [some (zrv x0), some (zI x1), some (zI x2), some (zI s0)]) rfl rfl (zmS184_73 hk20 _ _ _ _ _ _ _ _ _ _ H)
    · refine zA_brT' (c := v51 = 0) rfl rfl rfl c53 ?_
      refine zA_push rfl rfl zkk5 ?_
      refine zA_go rfl rfl ?_
      exact zA_tr (L := [some (zrv x0), some (zI x1), some (zI x2), some (zI s0)]) rfl rfl (zmS184_73 hk20 _ _ _ _ _ _ _ _ _ _ H)
  · refine zA_brT' (c := v32 = x1) rfl rfl rfl c34 ?_
    exact zA_tr (L := [some (zrv x0), some (zI x1), some (zI x2), none]) rfl rfl (zmS184_86 hk20 _ _ _ _ _ _ H)
def zm184_20 (k88 : zq → Int32 → zH → zRs Unit) : Nat → zq → Int32 → Int32 → zH → zRs Unit
  | 0, _, _, _, _ => none
  | n + 1, x0, x1, x2, h =>
    zob 12 x0 fun p21 i22 =>
    if (zi h p21 i22 30) ≤ x2 then
      k88 x0 x1 h
    else
      zri (zr h p21 i22 33) x2 h fun v33 =>
      if v33 = 0 then
        zri (zr h p21 i22 32) x2 h fun v43 =>
        zri (zr h p21 i22 34) x2 h fun v52 =>
        zri (zr h p21 i22 27) (((10 : Int32) * v43) + v52) h fun v61 =>
        if v61 = (5 : Int32) then
          zm184_48 (zm184_20 k88 n) x0 x1 x2 (1 : Int32) h
        else
          zm184_48 (zm184_20 k88 n) x0 x1 x2 (0 : Int32) h
      else
        zm184_48 (zm184_20 k88 n) x0 x1 x2 (0 : Int32) h
theorem zmS184_20 {k88 : zq → Int32 → zH → zRs Unit} (hk88 : ∀ (x0 : zq) (x1 : Int32) (h : zH) (r : Unit ⊕ Nat) (h' : zH), k88 x0 x1 h = some (r, h') → zAt 184 88 [some (zrv x0), some (zI x1), none, none] [] h (zoU r) h') : ∀ (n : Nat) (x0 : zq) (x1 : Int32) (x2 : Int32) (h : zH) (r : Unit ⊕ Nat) (h' : zH), zm184_20 k88 n x0 x1 x2 h = some (r, h') → zAt 184 20 [some (zrv x0), some (zI x1), some (zI x2), none] [] h (zoU r) h' := by
  intro n
  induction n with
  | zero => intro x0 x1 x2 h r h' H; cases H
  | succ n ih =>
    intro x0 x1 x2 h r h' H
    unfold zm184_20 at H
    refine zA_ldn rfl rfl rfl ?_
    refine zA_aldn rfl rfl rfl ?_
    obtain ⟨p21, i22, e23, c24, H⟩ := zob_e H
    refine zA_gf0 rfl rfl (Or.inl rfl) e23 c24 ?_
    rcases zite_e H with ⟨c25, H⟩ | ⟨c25, H⟩
    · refine zA_brT (c := (zi h p21 i22 30) ≤ x2) rfl rfl rfl c25 ?_
      exact zA_tr (L := [some (zrv x0), some (zI x1), none, none]) rfl rfl (hk88 _ _ _ _ _ H)
    · refine zA_brF (c := (zi h p21 i22 30) ≤ x2) rfl rfl rfl c25 ?_
      refine zA_aldn rfl rfl rfl ?_
      refine zA_gf3 rfl rfl e23 c24 ?_
      refine zA_ldn rfl rfl rfl ?_
      obtain ⟨p26, i27, j28, v33, e29, c30, c31, e32, e34, H⟩ := zri_e H
      refine zA_ial rfl rfl e29 c30 c31 e32 e34 ?_
      rcases zite_e H with ⟨c35, H⟩ | ⟨c35, H⟩
      · refine zA_brF' (c := v33 = 0) rfl rfl rfl c35 ?_
        refine zA_aldn rfl rfl rfl ?_
        refine zA_gf3 rfl rfl e23 c24 ?_
        refine zA_push rfl rfl zkk27 ?_
        refine zA_aldn rfl rfl rfl ?_
        refine zA_gf3 rfl rfl e23 c24 ?_
        refine zA_ldn rfl rfl rfl ?_
        obtain ⟨p36, i37, j38, v43, e39, c40, c41, e42, e44, H⟩ := zri_e H
        refine zA_ial rfl rfl e39 c40 c41 e42 e44 ?_
        refine zA_st (st' := [zI ((10 : Int32) * v43), zrv (zr h p21 i22 27)]) rfl rfl rfl rfl ?_
        refine zA_aldn rfl rfl rfl ?_
        refine zA_gf3 rfl rfl e23 c24 ?_
        refine zA_ldn rfl rfl rfl ?_
        obtain ⟨p45, i46, j47, v52, e48, c49, c50, e51, e53, H⟩ := zri_e H
        refine zA_ial rfl rfl e48 c49 c50 e51 e53 ?_
        refine zA_st (st' := [zI (((10 : Int32) * v43) + v52), zrv (zr h p21 i22 27)]) rfl rfl rfl rfl ?_
        obtain ⟨p54, i55, j56, v61, e57, c58, c59, e60, e62, H⟩ := zri_e H
        refine zA_ial rfl rfl e57 c58 c59 e60 e62 ?_
        refine zA_push rfl rfl zkk20 ?_
        rcases zite_e H with ⟨c63, H⟩ | ⟨c63, H⟩
        · refine zA_brF' (c := v61 = (5 : Int32)) rfl rfl rfl c63 ?_
          refine zA_push rfl rfl zkk5 ?_
          refine zA_go rfl rfl ?_
          exact zA_tr (L := [some (zrv x0), some (zI x1), some (zI x2), none]) rfl rfl (zmS184_48 ih _ _ _ _ _ _ _ H)
        · refine zA_brT' (c := v61 = (5 : Int32)) rfl rfl rfl c63 ?_
          refine zA_push rfl rfl zkk7 ?_
          exact zA_tr (L := [some (zrv x0), some (zI x1), some (zI x2), none]) rfl rfl (zmS184_48 ih _ _ _ _ _ _ _ H)
      · refine zA_brT' (c := v33 = 0) rfl rfl rfl c35 ?_
        refine zA_push rfl rfl zkk7 ?_
        exact zA_tr (L := [some (zrv x0), some (zI x1), some (zI x2), none]) rfl rfl (zmS184_48 ih _ _ _ _ _ _ _ H)
def zm184_88 (k2 : zq → Int32 → zH → zRs Unit) (x0 : zq) (x1 : Int32) (h : zH) : zRs Unit :=
  zlet (x1 + (1 : Int32)) fun x21 =>
  k2 x0 x21 h
theorem zmS184_88 {k2 : zq → Int32 → zH → zRs Unit} (hk2 : ∀ (x0 : zq) (x1 : Int32) (h : zH) (r : Unit ⊕ Nat) (h' : zH), k2 x0 x1 h = some (r, h') → zAt 184 2 [some (zrv x0), some (zI x1), none, none] [] h (zoU r) h') : ∀ (x0 : zq) (x1 : Int32) (h : zH) (r : Unit ⊕ Nat) (h' : zH), zm184_88 k2 x0 x1 h = some (r, h') → zAt 184 88 [some (zrv x0), some (zI x1), none, none] [] h (zoU r) h' := by
  intro x0 x1 h r h' H
  unfold zm184_88 at H
  obtain ⟨x21, e22, H⟩ := zlet_e H
  refine zA_inc rfl rfl rfl (e22.trans (congrArg (_ + ·) zkk8)) (zset1 (L' := [some (zrv x0), some (zI x21), none, none]) rfl rfl (zpcV rfl (zcat_rv _))) ?_
  refine zA_go rfl rfl ?_
  exact zA_tr (L := [some (zrv x0), some (zI x21), none, none]) rfl rfl (hk2 _ _ _ _ _ H)
def zm184_2 : Nat → zq → Int32 → zH → zRs Unit
  | 0, _, _, _ => none
  | n + 1, x0, x1, h =>
    zob 12 x0 fun p21 i22 =>
    if (zi h p21 i22 58) ≤ x1 then
      some (.inl (), h)
    else
      zri (zr h p21 i22 59) x1 h fun v33 =>
      if v33 = (zi h p21 i22 1) then
        zar 1 (zr h p21 i22 60) x1 h fun p36 i37 j38 =>
        zlet (zsi h p36 i37 j38 (0 : Int32)) fun h43 =>
        zm184_20 (zm184_88 (zm184_2 n)) zN0 x0 x1 (0 : Int32) h43
      else
        zm184_88 (zm184_2 n) x0 x1 h
theorem zmS184_2 : ∀ (n : Nat) (x0 : zq) (x1 : Int32) (h : zH) (r : Unit ⊕ Nat) (h' : zH), zm184_2 n x0 x1 h = some (r, h') → zAt 184 2 [some (zrv x0), some (zI x1), none, none] [] h (zoU r) h' := by
  intro n
  induction n with
  | zero => intro x0 x1 h r h' H; cases H
  | succ n ih =>
    intro x0 x1 h r h' H
    unfold zm184_2 at H
    refine zA_ldn rfl rfl rfl ?_
    refine zA_aldn rfl rfl rfl ?_
    obtain ⟨p21, i22, e23, c24, H⟩ := zob_e H
    refine zA_gf0 rfl rfl (Or.inl rfl) e23 c24 ?_
    rcases zite_e H with ⟨c25, H⟩ | ⟨c25, H⟩
    · refine zA_brT (c := (zi h p21 i22 58) ≤ x1) rfl rfl rfl c25 ?_
      refine zA_tr (L := [none, none, none, none]) rfl rfl ?_
      cases H
      exact zA_ret rfl rfl
    · refine zA_brF (c := (zi h p21 i22 58) ≤ x1) rfl rfl rfl c25 ?_
      refine zA_aldn rfl rfl rfl ?_
      refine zA_gf3 rfl rfl e23 c24 ?_
      refine zA_ldn rfl rfl rfl ?_
      obtain ⟨p26, i27, j28, v33, e29, c30, c31, e32, e34, H⟩ := zri_e H
      refine zA_ial rfl rfl e29 c30 c31 e32 e34 ?_
      refine zA_aldn rfl rfl rfl ?_
      refine zA_gf0 rfl rfl (Or.inl rfl) e23 c24 ?_
      rcases zite_e H with ⟨c35, H⟩ | ⟨c35, H⟩
      · refine zA_brF' (c := v33 = (zi h p21 i22 1)) rfl rfl rfl c35 ?_
        refine zA_aldn rfl rfl rfl ?_
        refine zA_gf3 rfl rfl e23 c24 ?_
        refine zA_ldn rfl rfl rfl ?_
        refine zA_push rfl rfl zkk7 ?_
        obtain ⟨p36, i37, j38, e39, c40, c41, e42, H⟩ := zar_e H
        obtain ⟨h43, e44, H⟩ := zlet_e H
        refine zA_ias rfl rfl e39 c40 c41 e42 e44 ?_
        refine zA_push rfl rfl zkk7 ?_
        refine zA_istn2 rfl rfl rfl (zset1 (L' := [some (zrv x0), some (zI x1), some (zI (0 : Int32)), none]) rfl rfl (zpcV rfl rfl)) ?_
        exact zA_tr (L := [some (zrv x0), some (zI x1), some (zI (0 : Int32)), none]) rfl rfl (zmS184_20 (zmS184_88 ih) zN0 _ _ _ _ _ _ H)
      · refine zA_brT' (c := v33 = (zi h p21 i22 1)) rfl rfl rfl c35 ?_
        exact zA_tr (L := [some (zrv x0), some (zI x1), none, none]) rfl rfl (zmS184_88 ih _ _ _ _ _ H)
-- 184: ReleaseHouseModel.leaves()V
def zm184 (x0 : zq) (h : zH) : zRs Unit :=
  zm184_2 zN0 x0 (0 : Int32) h
theorem zmS184 {x0 : zq} {h : zH} {r : Unit ⊕ Nat} {h' : zH} (H : zm184 x0 h = some (r, h')) : zAt 184 0 [some (zrv x0), none, none, none] [] h (zoU r) h' := by
  unfold zm184 at H
  refine zA_push rfl rfl zkk7 ?_
  refine zA_istn2 rfl rfl rfl (zset1 (L' := [some (zrv x0), some (zI (0 : Int32)), none, none]) rfl rfl (zpcV rfl (zcat_rv _))) ?_
  exact zA_tr (L := [some (zrv x0), some (zI (0 : Int32)), none, none]) rfl rfl (zmS184_2 zN0 _ _ _ _ _ H)
theorem zmE184 (x0 : zq) : zpad (zPr.2.1 184).1 (zil [zrv x0]) = [some (zrv x0), none, none, none] := by
  simp only [zil_A, zil_I, zil_F, zil_D, zil_N]
  rfl
-- 179: ReleaseHouseModel.skips(I)V
def zm179 (x0 : zq) (x1 : Int32) (h : zH) : zRs Unit :=
  zob 12 x0 fun p21 i22 =>
  zri (zr h p21 i22 31) x1 h fun v32 =>
  zb (zm175 x0 v32 h) fun _ h34 =>
  zb (zm176 x0 x1 (4 : Int32) h34) fun _ h35 =>
  some (.inl (), h35)
theorem zmS179 {x0 : zq} {x1 : Int32} {h : zH} {r : Unit ⊕ Nat} {h' : zH} (H : zm179 x0 x1 h = some (r, h')) : zAt 179 0 [some (zrv x0), some (zI x1)] [] h (zoU r) h' := by
  unfold zm179 at H
  refine zA_aldn rfl rfl rfl ?_
  refine zA_aldn rfl rfl rfl ?_
  obtain ⟨p21, i22, e23, c24, H⟩ := zob_e H
  refine zA_gf3 rfl rfl e23 c24 ?_
  refine zA_ldn rfl rfl rfl ?_
  obtain ⟨p25, i26, j27, v32, e28, c29, c30, e31, e33, H⟩ := zri_e H
  refine zA_ial rfl rfl e28 c29 c30 e31 e33 ?_
  rcases zb_e H with ⟨u37, h34, C, H⟩ | ⟨E, h34, C, H⟩
  · refine zA_callU (as := [zrv x0, zI v32]) (st' := []) rfl rfl rfl (zrcv_Q e23 c24) rfl (zmE175 _ _) rfl (zmS175 C) ?_
    refine zA_aldn rfl rfl rfl ?_
    refine zA_ldn rfl rfl rfl ?_
    refine zA_push rfl rfl zkk9 ?_
    rcases zb_e H with ⟨u36, h35, C, H⟩ | ⟨E, h35, C, H⟩
    · refine zA_callU (as := [zrv x0, zI x1, zI (4 : Int32)]) (st' := []) rfl rfl rfl (zrcv_Q e23 c24) rfl (zmE176 _ _ _) rfl (zmS176 C) ?_
      cases H
      exact zA_ret rfl rfl
    · cases H
      exact zA_callX (as := [zrv x0, zI x1, zI (4 : Int32)]) (st' := []) rfl rfl (zrcv_Q e23 c24) rfl (zmE176 _ _ _) rfl rfl rfl (zmS176 C)
  · cases H
    exact zA_callX (as := [zrv x0, zI v32]) (st' := []) rfl rfl (zrcv_Q e23 c24) rfl (zmE175 _ _) rfl rfl rfl (zmS175 C)
theorem zmE179 (x0 : zq) (x1 : Int32) : zpad (zPr.2.1 179).1 (zil [zrv x0, zI x1]) = [some (zrv x0), some (zI x1)] := by
  simp only [zil_A, zil_I, zil_F, zil_D, zil_N]
  rfl
def zm180_106 (s0 : zq) (s1 : Int32) (s2 : Int32) (h : zH) : zRs Int32 :=
  zar 1 s0 s1 h fun p21 i22 j23 =>
  zlet (zsi h p21 i22 j23 s2) fun h28 =>
  some (.inl (0 : Int32), h28)
theorem zmS180_106 : ∀ (s0 : zq) (s1 : Int32) (s2 : Int32) (h : zH) (r : Int32 ⊕ Nat) (h' : zH), zm180_106 s0 s1 s2 h = some (r, h') → zAt 180 106 [none, none, none, none, none, none, none, none, none] [zI s2, zI s1, zrv s0] h (zoI r) h' := by
  intro s0 s1 s2 h r h' H
  unfold zm180_106 at H
  obtain ⟨p21, i22, j23, e24, c25, c26, e27, H⟩ := zar_e H
  obtain ⟨h28, e29, H⟩ := zlet_e H
  refine zA_ias rfl rfl e24 c25 c26 e27 e29 ?_
  refine zA_push rfl rfl zkk7 ?_
  cases H
  exact zA_ret rfl (zret_Z (by decide))
def zm180_97 (x0 : zq) (x3 : Int32) (x4 : Int32) (x6 : Int32) (s0 : zq) (s1 : Int32) (s2 : Int32) (h : zH) : zRs Int32 :=
  zar 1 s0 s1 h fun p21 i22 j23 =>
  zlet (zsi h p21 i22 j23 s2) fun h28 =>
  zob 12 x0 fun p30 i31 =>
  if x3 = 0 then
    zm180_106 (zr h28 p30 i31 14) x6 (0 : Int32) h28
  else
    zm180_106 (zr h28 p30 i31 14) x6 x4 h28
theorem zmS180_97 : ∀ (x0 : zq) (x3 : Int32) (x4 : Int32) (x6 : Int32) (s0 : zq) (s1 : Int32) (s2 : Int32) (h : zH) (r : Int32 ⊕ Nat) (h' : zH), zm180_97 x0 x3 x4 x6 s0 s1 s2 h = some (r, h') → zAt 180 97 [some (zrv x0), none, none, some (zI x3), some (zI x4), none, some (zI x6), none, none] [zI s2, zI s1, zrv s0] h (zoI r) h' := by
  intro x0 x3 x4 x6 s0 s1 s2 h r h' H
  unfold zm180_97 at H
  obtain ⟨p21, i22, j23, e24, c25, c26, e27, H⟩ := zar_e H
  obtain ⟨h28, e29, H⟩ := zlet_e H
  refine zA_ias rfl rfl e24 c25 c26 e27 e29 ?_
  refine zA_aldn rfl rfl rfl ?_
  obtain ⟨p30, i31, e32, c33, H⟩ := zob_e H
  refine zA_gf3 rfl rfl e32 c33 ?_
  refine zA_ld rfl rfl rfl ?_
  refine zA_ldn rfl rfl rfl ?_
  rcases zite_e H with ⟨c34, H⟩ | ⟨c34, H⟩
  · refine zA_brT (c := x3 = 0) rfl rfl rfl c34 ?_
    refine zA_tr (L := [none, none, none, none, none, none, none, none, none]) rfl rfl ?_
    refine zA_push rfl rfl zkk7 ?_
    exact zA_tr (L := [none, none, none, none, none, none, none, none, none]) rfl rfl (zmS180_106 _ _ _ _ _ _ H)
  · refine zA_brF (c := x3 = 0) rfl rfl rfl c34 ?_
    refine zA_ld rfl rfl rfl ?_
    refine zA_go rfl rfl ?_
    exact zA_tr (L := [none, none, none, none, none, none, none, none, none]) rfl rfl (zmS180_106 _ _ _ _ _ _ H)
def zm180_89 (x0 : zq) (x3 : Int32) (x4 : Int32) (x5 : Int32) (x6 : Int32) (h : zH) : zRs Int32 :=
  zob 12 x0 fun p21 i22 =>
  if x3 = 0 then
    zm180_97 x0 x3 x4 x6 (zr h p21 i22 13) x6 (-1 : Int32) h
  else
    zm180_97 x0 x3 x4 x6 (zr h p21 i22 13) x6 x5 h
theorem zmS180_89 : ∀ (x0 : zq) (x3 : Int32) (x4 : Int32) (x5 : Int32) (x6 : Int32) (h : zH) (r : Int32 ⊕ Nat) (h' : zH), zm180_89 x0 x3 x4 x5 x6 h = some (r, h') → zAt 180 89 [some (zrv x0), none, none, some (zI x3), some (zI x4), some (zI x5), some (zI x6), none, none] [] h (zoI r) h' := by
  intro x0 x3 x4 x5 x6 h r h' H
  unfold zm180_89 at H
  refine zA_aldn rfl rfl rfl ?_
  obtain ⟨p21, i22, e23, c24, H⟩ := zob_e H
  refine zA_gf3 rfl rfl e23 c24 ?_
  refine zA_ld rfl rfl rfl ?_
  refine zA_ldn rfl rfl rfl ?_
  rcases zite_e H with ⟨c25, H⟩ | ⟨c25, H⟩
  · refine zA_brT (c := x3 = 0) rfl rfl rfl c25 ?_
    refine zA_tr (L := [some (zrv x0), none, none, some (zI x3), some (zI x4), none, some (zI x6), none, none]) rfl rfl ?_
    refine zA_push rfl rfl zkk6 ?_
    exact zA_tr (L := [some (zrv x0), none, none, some (zI x3), some (zI x4), none, some (zI x6), none, none]) rfl rfl (zmS180_97 _ _ _ _ _ _ _ _ _ _ H)
  · refine zA_brF (c := x3 = 0) rfl rfl rfl c25 ?_
    refine zA_ld rfl rfl rfl ?_
    refine zA_go rfl rfl ?_
    exact zA_tr (L := [some (zrv x0), none, none, some (zI x3), some (zI x4), none, some (zI x6), none, none]) rfl rfl (zmS180_97 _ _ _ _ _ _ _ _ _ _ H)
def zm180_61 (x0 : zq) (x1 : Int32) (x2 : Int32) (x3 : Int32) (x4 : Int32) (x5 : Int32) (x6 : Int32) (h : zH) : zRs Int32 :=
  if x3 = 0 then
    zob 12 x0 fun p22 i23 =>
    zar 2 (zr h p22 i23 41) (((3 : Int32) * x1) + x2) h fun p26 i27 j28 =>
    zlet (zsi h p26 i27 j28 (1 : Int32)) fun h33 =>
    zri (zr h33 p22 i23 12) x6 h33 fun v42 =>
    zar 1 (zr h33 p22 i23 42) (((3 : Int32) * x1) + x2) h33 fun p44 i45 j46 =>
    zlet (zsi h33 p44 i45 j46 v42) fun h51 =>
    zar 1 (zr h51 p22 i23 12) x6 h51 fun p53 i54 j55 =>
    zlet (zsi h51 p53 i54 j55 x5) fun h60 =>
    zm180_89 x0 x3 x4 x5 x6 h60
  else
    zm180_89 x0 x3 x4 x5 x6 h
theorem zmS180_61 : ∀ (x0 : zq) (x1 : Int32) (x2 : Int32) (x3 : Int32) (x4 : Int32) (x5 : Int32) (x6 : Int32) (h : zH) (r : Int32 ⊕ Nat) (h' : zH), zm180_61 x0 x1 x2 x3 x4 x5 x6 h = some (r, h') → zAt 180 61 [some (zrv x0), some (zI x1), some (zI x2), some (zI x3), some (zI x4), some (zI x5), some (zI x6), none, none] [] h (zoI r) h' := by
  intro x0 x1 x2 x3 x4 x5 x6 h r h' H
  unfold zm180_61 at H
  refine zA_ldn rfl rfl rfl ?_
  rcases zite_e H with ⟨c21, H⟩ | ⟨c21, H⟩
  · refine zA_brF' (c := x3 = 0) rfl rfl rfl c21 ?_
    refine zA_aldn rfl rfl rfl ?_
    obtain ⟨p22, i23, e24, c25, H⟩ := zob_e H
    refine zA_gf3 rfl rfl e24 c25 ?_
    refine zA_push rfl rfl zkk3 ?_
    refine zA_ldn rfl rfl rfl ?_
    refine zA_st (st' := [zI ((3 : Int32) * x1), zrv (zr h p22 i23 41)]) rfl rfl rfl rfl ?_
    refine zA_ldn rfl rfl rfl ?_
    refine zA_st (st' := [zI (((3 : Int32) * x1) + x2), zrv (zr h p22 i23 41)]) rfl rfl rfl rfl ?_
    refine zA_push rfl rfl zkk5 ?_
    obtain ⟨p26, i27, j28, e29, c30, c31, e32, H⟩ := zar_e H
    obtain ⟨h33, e34, H⟩ := zlet_e H
    refine zA_bas rfl rfl e29 c30 c31 e32 (by decide) e34 ?_
    refine zA_aldn rfl rfl rfl ?_
    refine zA_gf3 rfl rfl e24 c25 ?_
    refine zA_push rfl rfl zkk3 ?_
    refine zA_ldn rfl rfl rfl ?_
    refine zA_st (st' := [zI ((3 : Int32) * x1), zrv (zr h33 p22 i23 42)]) rfl rfl rfl rfl ?_
    refine zA_ldn rfl rfl rfl ?_
    refine zA_st (st' := [zI (((3 : Int32) * x1) + x2), zrv (zr h33 p22 i23 42)]) rfl rfl rfl rfl ?_
    refine zA_aldn rfl rfl rfl ?_
    refine zA_gf3 rfl rfl e24 c25 ?_
    refine zA_ld rfl rfl rfl ?_
    obtain ⟨p35, i36, j37, v42, e38, c39, c40, e41, e43, H⟩ := zri_e H
    refine zA_ial rfl rfl e38 c39 c40 e41 e43 ?_
    obtain ⟨p44, i45, j46, e47, c48, c49, e50, H⟩ := zar_e H
    obtain ⟨h51, e52, H⟩ := zlet_e H
    refine zA_ias rfl rfl e47 c48 c49 e50 e52 ?_
    refine zA_aldn rfl rfl rfl ?_
    refine zA_gf3 rfl rfl e24 c25 ?_
    refine zA_ld rfl rfl rfl ?_
    refine zA_ld rfl rfl rfl ?_
    obtain ⟨p53, i54, j55, e56, c57, c58, e59, H⟩ := zar_e H
    obtain ⟨h60, e61, H⟩ := zlet_e H
    refine zA_ias rfl rfl e56 c57 c58 e59 e61 ?_
    exact zA_tr (L := [some (zrv x0), none, none, some (zI x3), some (zI x4), some (zI x5), some (zI x6), none, none]) rfl rfl (zmS180_89 _ _ _ _ _ _ _ _ H)
  · refine zA_brT' (c := x3 = 0) rfl rfl rfl c21 ?_
    exact zA_tr (L := [some (zrv x0), none, none, some (zI x3), some (zI x4), some (zI x5), some (zI x6), none, none]) rfl rfl (zmS180_89 _ _ _ _ _ _ _ _ H)
def zm180_49 (x0 : zq) (x1 : Int32) (x2 : Int32) (x3 : Int32) (x4 : Int32) (x5 : Int32) (x6 : Int32) (x7 : Int32) (s0 : Int32) (h : zH) : zRs Int32 :=
  if s0 = (-1 : Int32) then
    zm180_61 x0 x1 x2 x3 x4 x5 x6 h
  else
    zob 12 x0 fun p22 i23 =>
    zar 1 (zr h p22 i23 33) s0 h fun p26 i27 j28 =>
    zlet (zsi h p26 i27 j28 (1 : Int32)) fun h33 =>
    zb (zm175 x0 x7 h33) fun _ h35 =>
    zm180_61 x0 x1 x2 x3 x4 x5 x6 h35
theorem zmS180_49 : ∀ (x0 : zq) (x1 : Int32) (x2 : Int32) (x3 : Int32) (x4 : Int32) (x5 : Int32) (x6 : Int32) (x7 : Int32) (s0 : Int32) (h : zH) (r : Int32 ⊕ Nat) (h' : zH), zm180_49 x0 x1 x2 x3 x4 x5 x6 x7 s0 h = some (r, h') → zAt 180 49 [some (zrv x0), some (zI x1), some (zI x2), some (zI x3), some (zI x4), some (zI x5), some (zI x6), some (zI x7), none] [zI s0] h (zoI r) h' := by
  intro x0 x1 x2 x3 x4 x5 x6 x7 s0 h r h' H
  unfold zm180_49 at H
  refine zA_ist2 rfl rfl rfl (zset1 (L' := [some (zrv x0), some (zI x1), some (zI x2), some (zI x3), some (zI x4), some (zI x5), some (zI x6), some (zI x7), some (zI s0)]) rfl rfl (zpcV rfl rfl)) ?_
  refine zA_ld rfl rfl rfl ?_
  refine zA_push rfl rfl zkk6 ?_
  rcases zite_e H with ⟨c21, H⟩ | ⟨c21, H⟩
  · refine zA_brT (c := s0 = (-1 : Int32)) rfl rfl rfl c21 ?_
    exact zA_tr (L := [some (zrv x0), some (zI x1), some (zI x2), some (zI x3), some (zI x4), some (zI x5), some (zI x6), none, none]) rfl rfl (zmS180_61 _ _ _ _ _ _ _ _ _ _ H)
  · refine zA_brF (c := s0 = (-1 : Int32)) rfl rfl rfl c21 ?_
    refine zA_aldn rfl rfl rfl ?_
    obtain ⟨p22, i23, e24, c25, H⟩ := zob_e H
    refine zA_gf3 rfl rfl e24 c25 ?_
    refine zA_ld rfl rfl rfl ?_
    refine zA_push rfl rfl zkk5 ?_
    obtain ⟨p26, i27, j28, e29, c30, c31, e32, H⟩ := zar_e H
    obtain ⟨h33, e34, H⟩ := zlet_e H
    refine zA_ias rfl rfl e29 c30 c31 e32 e34 ?_
    refine zA_aldn rfl rfl rfl ?_
    refine zA_ld rfl rfl rfl ?_
    rcases zb_e H with ⟨u36, h35, C, H⟩ | ⟨E, h35, C, H⟩
    · refine zA_callU (as := [zrv x0, zI x7]) (st' := []) rfl rfl rfl (zrcv_Q e24 c25) rfl (zmE175 _ _) rfl (zmS175 C) ?_
      exact zA_tr (L := [some (zrv x0), some (zI x1), some (zI x2), some (zI x3), some (zI x4), some (zI x5), some (zI x6), none, none]) rfl rfl (zmS180_61 _ _ _ _ _ _ _ _ _ _ H)
    · cases H
      exact zA_callX (as := [zrv x0, zI x7]) (st' := []) rfl rfl (zrcv_Q e24 c25) rfl (zmE175 _ _) rfl rfl rfl (zmS175 C)
-- 180: ReleaseHouseModel.moves(IIZI)Z
def zm180 (x0 : zq) (x1 : Int32) (x2 : Int32) (x3 : Int32) (x4 : Int32) (h : zH) : zRs Int32 :=
  zob 12 x0 fun p21 i22 =>
  zri (zr h p21 i22 31) x1 h fun v32 =>
  zri (zr h p21 i22 3) v32 h fun v41 =>
  zlet (((3 : Int32) * v41) + x2) fun x43 =>
  zri (zr h p21 i22 12) x43 h fun v52 =>
  if v52 = v32 then
    some (.inl (0 : Int32), h)
  else
    zri (zr h p21 i22 12) x43 h fun v62 =>
    if v62 ≤ v32 then
      zri (zr h p21 i22 13) x43 h fun v72 =>
      if v72 = (-1 : Int32) then
        zm180_49 x0 x1 x2 x3 x4 v32 x43 v72 (-1 : Int32) h
      else
        if v72 = v32 then
          zm180_49 x0 x1 x2 x3 x4 v32 x43 v72 (-1 : Int32) h
        else
          zb (zm157 x0 v72 h) fun x77 h76 =>
          zm180_49 x0 x1 x2 x3 x4 v32 x43 v72 x77 h76
    else
      zb (zm179 x0 x1 h) fun _ h78 =>
      some (.inl (1 : Int32), h78)
theorem zmS180 {x0 : zq} {x1 : Int32} {x2 : Int32} {x3 : Int32} {x4 : Int32} {h : zH} {r : Int32 ⊕ Nat} {h' : zH} (H : zm180 x0 x1 x2 x3 x4 h = some (r, h')) : zAt 180 0 [some (zrv x0), some (zI x1), some (zI x2), some (zI x3), some (zI x4), none, none, none, none] [] h (zoI r) h' := by
  unfold zm180 at H
  refine zA_aldn rfl rfl rfl ?_
  obtain ⟨p21, i22, e23, c24, H⟩ := zob_e H
  refine zA_gf3 rfl rfl e23 c24 ?_
  refine zA_ldn rfl rfl rfl ?_
  obtain ⟨p25, i26, j27, v32, e28, c29, c30, e31, e33, H⟩ := zri_e H
  refine zA_ial rfl rfl e28 c29 c30 e31 e33 ?_
  refine zA_ist2 rfl rfl rfl (zset1 (L' := [some (zrv x0), some (zI x1), some (zI x2), some (zI x3), some (zI x4), some (zI v32), none, none, none]) rfl rfl (zpcV rfl rfl)) ?_
  refine zA_push rfl rfl zkk3 ?_
  refine zA_aldn rfl rfl rfl ?_
  refine zA_gf3 rfl rfl e23 c24 ?_
  refine zA_ld rfl rfl rfl ?_
  obtain ⟨p34, i35, j36, v41, e37, c38, c39, e40, e42, H⟩ := zri_e H
  refine zA_ial rfl rfl e37 c38 c39 e40 e42 ?_
  refine zA_st (st' := [zI ((3 : Int32) * v41)]) rfl rfl rfl rfl ?_
  refine zA_ldn rfl rfl rfl ?_
  refine zA_st (st' := [zI (((3 : Int32) * v41) + x2)]) rfl rfl rfl rfl ?_
  obtain ⟨x43, e44, H⟩ := zlet_e H
  refine zA_ist2 rfl rfl e44 (zset1 (L' := [some (zrv x0), some (zI x1), some (zI x2), some (zI x3), some (zI x4), some (zI v32), some (zI x43), none, none]) rfl rfl (zpcV rfl rfl)) ?_
  refine zA_aldn rfl rfl rfl ?_
  refine zA_gf3 rfl rfl e23 c24 ?_
  refine zA_ld rfl rfl rfl ?_
  obtain ⟨p45, i46, j47, v52, e48, c49, c50, e51, e53, H⟩ := zri_e H
  refine zA_ial rfl rfl e48 c49 c50 e51 e53 ?_
  refine zA_ld rfl rfl rfl ?_
  rcases zite_e H with ⟨c54, H⟩ | ⟨c54, H⟩
  · refine zA_brF' (c := v52 = v32) rfl rfl rfl c54 ?_
    refine zA_push rfl rfl zkk7 ?_
    cases H
    exact zA_ret rfl (zret_Z (by decide))
  · refine zA_brT' (c := v52 = v32) rfl rfl rfl c54 ?_
    refine zA_aldn rfl rfl rfl ?_
    refine zA_gf3 rfl rfl e23 c24 ?_
    refine zA_ld rfl rfl rfl ?_
    obtain ⟨p55, i56, j57, v62, e58, c59, c60, e61, e63, H⟩ := zri_e H
    refine zA_ial rfl rfl e58 c59 c60 e61 e63 ?_
    refine zA_ld rfl rfl rfl ?_
    rcases zite_e H with ⟨c64, H⟩ | ⟨c64, H⟩
    · refine zA_brT (c := v62 ≤ v32) rfl rfl rfl c64 ?_
      refine zA_aldn rfl rfl rfl ?_
      refine zA_gf3 rfl rfl e23 c24 ?_
      refine zA_ld rfl rfl rfl ?_
      obtain ⟨p65, i66, j67, v72, e68, c69, c70, e71, e73, H⟩ := zri_e H
      refine zA_ial rfl rfl e68 c69 c70 e71 e73 ?_
      refine zA_ist2 rfl rfl rfl (zset1 (L' := [some (zrv x0), some (zI x1), some (zI x2), some (zI x3), some (zI x4), some (zI v32), some (zI x43), some (zI v72), none]) rfl rfl (zpcV rfl rfl)) ?_
      refine zA_ld rfl rfl rfl ?_
      refine zA_push rfl rfl zkk6 ?_
      rcases zite_e H with ⟨c74, H⟩ | ⟨c74, H⟩
      · refine zA_brT (c := v72 = (-1 : Int32)) rfl rfl rfl c74 ?_
        refine zA_push rfl rfl zkk6 ?_
        refine zA_go rfl rfl ?_
        exact zA_tr (L := [some (zrv x0), some (zI x1), some (zI x2), some (zI x3), some (zI x4), some (zI v32), some (zI x43), some (zI v72), none]) rfl rfl (zmS180_49 _ _ _ _ _ _ _ _ _ _ _ _ H)
      · refine zA_brF (c := v72 = (-1 : Int32)) rfl rfl rfl c74 ?_
        refine zA_ld rfl rfl rfl ?_
        refine zA_ld rfl rfl rfl ?_
        rcases zite_e H with ⟨c75, H⟩ | ⟨c75, H⟩
        · refine zA_brF' (c := v72 = v32) rfl rfl rfl c75 ?_
          refine zA_push rfl rfl zkk6 ?_
          refine zA_go rfl rfl ?_
          exact zA_tr (L := [some (zrv x0), some (zI x1), some (zI x2), some (zI x3), some (zI x4), some (zI v32), some (zI x43), some (zI v72), none]) rfl rfl (zmS180_49 _ _ _ _ _ _ _ _ _ _ _ _ H)
        · refine zA_brT' (c := v72 = v32) rfl rfl rfl c75 ?_
          refine zA_aldn rfl rfl rfl ?_
          refine zA_ld rfl rfl rfl ?_
          rcases zb_e H with ⟨x77, h76, C, H⟩ | ⟨E, h76, C, H⟩
          · refine zA_callV (as := [zrv x0, zI v72]) (st' := []) rfl rfl rfl (zrcv_Q e23 c24) rfl (zmE157 _ _) rfl (zmS157 C) ?_
            exact zA_tr (L := [some (zrv x0), some (zI x1), some (zI x2), some (zI x3), some (zI x4), some (zI v32), some (zI x43), some (zI v72), none]) rfl rfl (zmS180_49 _ _ _ _ _ _ _ _ _ _ _ _ H)
          · cases H
            exact zA_callX (as := [zrv x0, zI v72]) (st' := []) rfl rfl (zrcv_Q e23 c24) rfl (zmE157 _ _) rfl rfl rfl (zmS157 C)
    · refine zA_brF (c := v62 ≤ v32) rfl rfl rfl c64 ?_
      refine zA_aldn rfl rfl rfl ?_
      refine zA_ldn rfl rfl rfl ?_
      rcases zb_e H with ⟨u79, h78, C, H⟩ | ⟨E, h78, C, H⟩
      · refine zA_callU (as := [zrv x0, zI x1]) (st' := []) rfl rfl rfl (zrcv_Q e23 c24) rfl (zmE179 _ _) rfl (zmS179 C) ?_
        refine zA_push rfl rfl zkk5 ?_
        cases H
        exact zA_ret rfl (zret_Z (by decide))
      · cases H
        exact zA_callX (as := [zrv x0, zI x1]) (st' := []) rfl rfl (zrcv_Q e23 c24) rfl (zmE179 _ _) rfl rfl rfl (zmS179 C)
theorem zmE180 (x0 : zq) (x1 : Int32) (x2 : Int32) (x3 : Int32) (x4 : Int32) : zpad (zPr.2.1 180).1 (zil [zrv x0, zI x1, zI x2, zI x3, zI x4]) = [some (zrv x0), some (zI x1), some (zI x2), some (zI x3), some (zI x4), none, none, none, none] := by
  simp only [zil_A, zil_I, zil_F, zil_D, zil_N]
  rfl
def zm181_42 (x0 : zq) (x3 : Int32) (s0 : zq) (s1 : Int32) (s2 : Int32) (s3 : Int32) (h : zH) : zRs Int32 :=
  zob 12 x0 fun p21 i22 =>
  zri (zr h p21 i22 29) x3 h fun v32 =>
  zob 12 s0 fun p34 i35 =>
  zb (zm180 s0 s1 s2 s3 v32 h) fun x39 h38 =>
  zif (x39 = 0 ∨ x39 = 1) <|
  some (.inl x39, h38)
theorem zmS181_42 : ∀ (x0 : zq) (x3 : Int32) (s0 : zq) (s1 : Int32) (s2 : Int32) (s3 : Int32) (h : zH) (r : Int32 ⊕ Nat) (h' : zH), zm181_42 x0 x3 s0 s1 s2 s3 h = some (r, h') → zAt 181 42 [some (zrv x0), none, none, some (zI x3)] [zI s3, zI s2, zI s1, zrv s0] h (zoI r) h' := by
  intro x0 x3 s0 s1 s2 s3 h r h' H
  unfold zm181_42 at H
  refine zA_aldn rfl rfl rfl ?_
  obtain ⟨p21, i22, e23, c24, H⟩ := zob_e H
  refine zA_gf3 rfl rfl e23 c24 ?_
  refine zA_ldn rfl rfl rfl ?_
  obtain ⟨p25, i26, j27, v32, e28, c29, c30, e31, e33, H⟩ := zri_e H
  refine zA_ial rfl rfl e28 c29 c30 e31 e33 ?_
  obtain ⟨p34, i35, e36, c37, H⟩ := zob_e H
  rcases zb_e H with ⟨x39, h38, C, H⟩ | ⟨E, h38, C, H⟩
  · refine zA_callV (as := [zrv s0, zI s1, zI s2, zI s3, zI v32]) (st' := []) rfl rfl rfl (zrcv_Q e36 c37) rfl (zmE180 _ _ _ _ _) rfl (zmS180 C) ?_
    obtain ⟨c40, H⟩ := zif_e H
    cases H
    exact zA_ret rfl (zret_Z c40)
  · cases H
    exact zA_callX (as := [zrv s0, zI s1, zI s2, zI s3, zI v32]) (st' := []) rfl rfl (zrcv_Q e36 c37) rfl (zmE180 _ _ _ _ _) rfl rfl rfl (zmS180 C)
def zm181_28 (x0 : zq) (x1 : Int32) (x3 : Int32) (h : zH) : zRs Int32 :=
  zob 12 x0 fun p21 i22 =>
  zri (zr h p21 i22 28) x3 h fun v32 =>
  zri (zr h p21 i22 27) x3 h fun v41 =>
  if v41 = 0 then
    zm181_42 x0 x3 x0 x1 v32 (1 : Int32) h
  else
    zm181_42 x0 x3 x0 x1 v32 (0 : Int32) h
theorem zmS181_28 : ∀ (x0 : zq) (x1 : Int32) (x3 : Int32) (h : zH) (r : Int32 ⊕ Nat) (h' : zH), zm181_28 x0 x1 x3 h = some (r, h') → zAt 181 28 [some (zrv x0), some (zI x1), none, some (zI x3)] [] h (zoI r) h' := by
  intro x0 x1 x3 h r h' H
  unfold zm181_28 at H
  refine zA_aldn rfl rfl rfl ?_
  refine zA_ldn rfl rfl rfl ?_
  refine zA_aldn rfl rfl rfl ?_
  obtain ⟨p21, i22, e23, c24, H⟩ := zob_e H
  refine zA_gf3 rfl rfl e23 c24 ?_
  refine zA_ldn rfl rfl rfl ?_
  obtain ⟨p25, i26, j27, v32, e28, c29, c30, e31, e33, H⟩ := zri_e H
  refine zA_ial rfl rfl e28 c29 c30 e31 e33 ?_
  refine zA_aldn rfl rfl rfl ?_
  refine zA_gf3 rfl rfl e23 c24 ?_
  refine zA_ldn rfl rfl rfl ?_
  obtain ⟨p34, i35, j36, v41, e37, c38, c39, e40, e42, H⟩ := zri_e H
  refine zA_ial rfl rfl e37 c38 c39 e40 e42 ?_
  rcases zite_e H with ⟨c43, H⟩ | ⟨c43, H⟩
  · refine zA_brF' (c := v41 = 0) rfl rfl rfl c43 ?_
    refine zA_push rfl rfl zkk5 ?_
    refine zA_go rfl rfl ?_
    exact zA_tr (L := [some (zrv x0), none, none, some (zI x3)]) rfl rfl (zmS181_42 _ _ _ _ _ _ _ _ _ H)
  · refine zA_brT' (c := v41 = 0) rfl rfl rfl c43 ?_
    refine zA_tr (L := [some (zrv x0), none, none, some (zI x3)]) rfl rfl ?_
    refine zA_push rfl rfl zkk7 ?_
    exact zA_tr (L := [some (zrv x0), none, none, some (zI x3)]) rfl rfl (zmS181_42 _ _ _ _ _ _ _ _ _ H)
-- 181: ReleaseHouseModel.does(I)Z
def zm181 (x0 : zq) (x1 : Int32) (h : zH) : zRs Int32 :=
  zob 12 x0 fun p21 i22 =>
  zri (zr h p21 i22 31) x1 h fun v32 =>
  zri (zr h p21 i22 32) x1 h fun v41 =>
  zri (zr h p21 i22 34) x1 h fun v50 =>
  zlet (((10 : Int32) * v41) + v50) fun x52 =>
  zri (zr h p21 i22 27) x52 h fun v61 =>
  if v61 = 0 then
    zm181_28 x0 x1 x52 h
  else
    zri (zr h p21 i22 27) x52 h fun v71 =>
    if v71 = (4 : Int32) then
      zm181_28 x0 x1 x52 h
    else
      zri (zr h p21 i22 27) x52 h fun v81 =>
      if v81 = (2 : Int32) then
        zri (zr h p21 i22 3) v32 h fun v91 =>
        zri (zr h p21 i22 28) x52 h fun v100 =>
        zb (zm214 x0 (((3 : Int32) * v91) + v100) h) fun x103 h102 =>
        if x103 = (2 : Int32) then
          zb (zm178 x0 x1 h102) fun x106 h105 =>
          some (.inl (1 : Int32), h105)
        else
          some (.inl (0 : Int32), h102)
      else
        some (.inl (0 : Int32), h)
theorem zmS181 {x0 : zq} {x1 : Int32} {h : zH} {r : Int32 ⊕ Nat} {h' : zH} (H : zm181 x0 x1 h = some (r, h')) : zAt 181 0 [some (zrv x0), some (zI x1), none, none] [] h (zoI r) h' := by
  unfold zm181 at H
  refine zA_aldn rfl rfl rfl ?_
  obtain ⟨p21, i22, e23, c24, H⟩ := zob_e H
  refine zA_gf3 rfl rfl e23 c24 ?_
  refine zA_ldn rfl rfl rfl ?_
  obtain ⟨p25, i26, j27, v32, e28, c29, c30, e31, e33, H⟩ := zri_e H
  refine zA_ial rfl rfl e28 c29 c30 e31 e33 ?_
  refine zA_istn2 rfl rfl rfl (zset1 (L' := [some (zrv x0), some (zI x1), some (zI v32), none]) rfl rfl (zpcV rfl rfl)) ?_
  refine zA_push rfl rfl zkk27 ?_
  refine zA_aldn rfl rfl rfl ?_
  refine zA_gf3 rfl rfl e23 c24 ?_
  refine zA_ldn rfl rfl rfl ?_
  obtain ⟨p34, i35, j36, v41, e37, c38, c39, e40, e42, H⟩ := zri_e H
  refine zA_ial rfl rfl e37 c38 c39 e40 e42 ?_
  refine zA_st (st' := [zI ((10 : Int32) * v41)]) rfl rfl rfl rfl ?_
  refine zA_aldn rfl rfl rfl ?_
  refine zA_gf3 rfl rfl e23 c24 ?_
  refine zA_ldn rfl rfl rfl ?_
  obtain ⟨p43, i44, j45, v50, e46, c47, c48, e49, e51, H⟩ := zri_e H
  refine zA_ial rfl rfl e46 c47 c48 e49 e51 ?_
  refine zA_st (st' := [zI (((10 : Int32) * v41) + v50)]) rfl rfl rfl rfl ?_
  obtain ⟨x52, e53, H⟩ := zlet_e H
  refine zA_istn2 rfl rfl e53 (zset1 (L' := [some (zrv x0), some (zI x1), some (zI v32), some (zI x52)]) rfl rfl (zpcV rfl rfl)) ?_
  refine zA_aldn rfl rfl rfl ?_
  refine zA_gf3 rfl rfl e23 c24 ?_
  refine zA_ldn rfl rfl rfl ?_
  obtain ⟨p54, i55, j56, v61, e57, c58, c59, e60, e62, H⟩ := zri_e H
  refine zA_ial rfl rfl e57 c58 c59 e60 e62 ?_
  rcases zite_e H with ⟨c63, H⟩ | ⟨c63, H⟩
  · refine zA_brT (c := v61 = 0) rfl rfl rfl c63 ?_
    exact zA_tr (L := [some (zrv x0), some (zI x1), none, some (zI x52)]) rfl rfl (zmS181_28 _ _ _ _ _ _ H)
  · refine zA_brF (c := v61 = 0) rfl rfl rfl c63 ?_
    refine zA_aldn rfl rfl rfl ?_
    refine zA_gf3 rfl rfl e23 c24 ?_
    refine zA_ldn rfl rfl rfl ?_
    obtain ⟨p64, i65, j66, v71, e67, c68, c69, e70, e72, H⟩ := zri_e H
    refine zA_ial rfl rfl e67 c68 c69 e70 e72 ?_
    refine zA_push rfl rfl zkk9 ?_
    rcases zite_e H with ⟨c73, H⟩ | ⟨c73, H⟩
    · refine zA_brF' (c := v71 = (4 : Int32)) rfl rfl rfl c73 ?_
      exact zA_tr (L := [some (zrv x0), some (zI x1), none, some (zI x52)]) rfl rfl (zmS181_28 _ _ _ _ _ _ H)
    · refine zA_brT' (c := v71 = (4 : Int32)) rfl rfl rfl c73 ?_
      refine zA_aldn rfl rfl rfl ?_
      refine zA_gf3 rfl rfl e23 c24 ?_
      refine zA_ldn rfl rfl rfl ?_
      obtain ⟨p74, i75, j76, v81, e77, c78, c79, e80, e82, H⟩ := zri_e H
      refine zA_ial rfl rfl e77 c78 c79 e80 e82 ?_
      refine zA_push rfl rfl zkk23 ?_
      rcases zite_e H with ⟨c83, H⟩ | ⟨c83, H⟩
      · refine zA_brF' (c := v81 = (2 : Int32)) rfl rfl rfl c83 ?_
        refine zA_aldn rfl rfl rfl ?_
        refine zA_push rfl rfl zkk3 ?_
        refine zA_aldn rfl rfl rfl ?_
        refine zA_gf3 rfl rfl e23 c24 ?_
        refine zA_ldn rfl rfl rfl ?_
        obtain ⟨p84, i85, j86, v91, e87, c88, c89, e90, e92, H⟩ := zri_e H
        refine zA_ial rfl rfl e87 c88 c89 e90 e92 ?_
        refine zA_st (st' := [zI ((3 : Int32) * v91), zrv x0]) rfl rfl rfl rfl ?_
        refine zA_aldn rfl rfl rfl ?_
        refine zA_gf3 rfl rfl e23 c24 ?_
        refine zA_ldn rfl rfl rfl ?_
        obtain ⟨p93, i94, j95, v100, e96, c97, c98, e99, e101, H⟩ := zri_e H
        refine zA_ial rfl rfl e96 c97 c98 e99 e101 ?_
        refine zA_st (st' := [zI (((3 : Int32) * v91) + v100), zrv x0]) rfl rfl rfl rfl ?_
        rcases zb_e H with ⟨x103, h102, C, H⟩ | ⟨E, h102, C, H⟩
        · refine zA_callV (as := [zrv x0, zI (((3 : Int32) * v91) + v100)]) (st' := []) rfl rfl rfl (zrcv_Q e23 c24) rfl (zmE214 _ _) rfl (zmS214 C) ?_
          refine zA_push rfl rfl zkk23 ?_
          rcases zite_e H with ⟨c104, H⟩ | ⟨c104, H⟩
          · refine zA_brF' (c := x103 = (2 : Int32)) rfl rfl rfl c104 ?_
            refine zA_aldn rfl rfl rfl ?_
            refine zA_ldn rfl rfl rfl ?_
            rcases zb_e H with ⟨x106, h105, C, H⟩ | ⟨E, h105, C, H⟩
            · refine zA_callV (as := [zrv x0, zI x1]) (st' := []) rfl rfl rfl (zrcv_Q e23 c24) rfl (zmE178 _ _) rfl (zmS178 C) ?_
              refine zA_pop rfl rfl rfl ?_
              refine zA_push rfl rfl zkk5 ?_
              cases H
              exact zA_ret rfl (zret_Z (by decide))
            · cases H
              exact zA_callX (as := [zrv x0, zI x1]) (st' := []) rfl rfl (zrcv_Q e23 c24) rfl (zmE178 _ _) rfl rfl rfl (zmS178 C)
          · refine zA_brT' (c := x103 = (2 : Int32)) rfl rfl rfl c104 ?_
            refine zA_tr (L := [none, none, none, none]) rfl rfl ?_
            refine zA_push rfl rfl zkk7 ?_
            cases H
            exact zA_ret rfl (zret_Z (by decide))
        · cases H
          exact zA_callX (as := [zrv x0, zI (((3 : Int32) * v91) + v100)]) (st' := []) rfl rfl (zrcv_Q e23 c24) rfl (zmE214 _ _) rfl rfl rfl (zmS214 C)
      · refine zA_brT' (c := v81 = (2 : Int32)) rfl rfl rfl c83 ?_
        refine zA_tr (L := [none, none, none, none]) rfl rfl ?_
        refine zA_push rfl rfl zkk7 ?_
        cases H
        exact zA_ret rfl (zret_Z (by decide))
theorem zmE181 (x0 : zq) (x1 : Int32) : zpad (zPr.2.1 181).1 (zil [zrv x0, zI x1]) = [some (zrv x0), some (zI x1), none, none] := by
  simp only [zil_A, zil_I, zil_F, zil_D, zil_N]
  rfl
