set_option maxRecDepth 16384
/-- a reference, or none, is written to a place of an array of references -/
def zaw {α : Type} (q w : zq) (x : Int32) (h : zH) (f : Nat → Nat → Nat → Option α) : Option α := match w with
  | none => zar 5 q x h f
  | some (k2, i2) => zas q (some (k2, i2)) x h fun k i _ _ j => f k i j
theorem zaw_e {α : Type} {q w : zq} {x : Int32} {h : zH} {f : Nat → Nat → Nat → Option α} {r : α} (H : zaw q w x h f = some r) : ∃ k i j, q = some (k, i) ∧ ((w = none ∧ (ztg k == 5) = true) ∨ ∃ k2 i2, w = some (k2, i2) ∧ (ztg k == 5 && ztg k2 == 0 && zkc k == zkc k2) = true) ∧ ¬ (x < 0 ∨ zln h k i ≤ j) ∧ j = x.toNatClampNeg ∧ f k i j = some r := by
  cases w with
  | none =>
    obtain ⟨k, i, j, e1, e2, e3, e4, H⟩ := zar_e (t := 5) (q := q) (x := x) (h := h) (f := f) H
    exact ⟨k, i, j, e1, Or.inl ⟨rfl, e2⟩, e3, e4, H⟩
  | some w =>
    obtain ⟨k2', i2'⟩ := w
    obtain ⟨k, i, k2, i2, j, e1, e2, e3, e4, e5, H⟩ := zas_e (q := q) (w := some (k2', i2')) (x := x) (h := h) H
    exact ⟨k, i, j, e1, Or.inr ⟨k2, i2, e2, e3⟩, e4, e5, H⟩
theorem zA_aaw {mi pc : Nat} {L : zLs} {st : List zV} {h h1 h' : zH} {o : zO} {b : Nat} {ks : List Bool} {a : List Nat} {q w : zq} {k i : Nat} {x : Int32} (hf : zfetch mi pc = some ((.aastore, b), (6 :: a, ks))) (hL : ztr ks L = L) (e : q = some (k, i)) (hc : (w = none ∧ (ztg k == 5) = true) ∨ ∃ k2 i2, w = some (k2, i2) ∧ (ztg k == 5 && ztg k2 == 0 && zkc k == zkc k2) = true) {j : Nat} (hx : ¬ (x < 0 ∨ zln h k i ≤ j)) (hj : j = x.toNatClampNeg) (hh : h1 = zsr h k i j w) (H : zAt mi (pc + 1) L st h1 o h') : zAt mi pc L (zrv w :: zI x :: zrv q :: st) h o h' := by
  rcases hc with ⟨rfl, hc⟩ | ⟨k2, i2, e2, hc⟩
  · exact zA_aasN hf hL e hc hx hj hh H
  · exact zA_aas hf hL e e2 hc hx hj (by rw [hh, e2]) H
def zmX_26 (x1 : zq) (x2 : Int32) (x3 : Int32) (x4 : zq) (x5 : zq) (h : zH) : zRs Unit :=
  if x3 ≤ 0 then
    zob 5 x1 fun p22 i23 =>
    zar 2 (zr h p22 i23 9) x2 h fun p26 i27 j28 =>
    zlet (zsi h p26 i27 j28 (1 : Int32)) fun h33 =>
    zob 9 x5 fun p35 i36 =>
    zaw (zr h33 p22 i23 10) (zr h33 p35 i36 0) x2 h33 fun p39 i40 j41 =>
    zlet (zsr h33 p39 i40 j41 (zr h33 p35 i36 0)) fun h46 =>
    zb (zm29 x5 x4 (none : zq) (0 : Int32) h46) fun _ h51 =>
    some (.inl (), h51)
  else
    zob 9 x5 fun p53 i54 =>
    zb (zm29 x5 (zr h p53 i54 0) x4 x3 h) fun _ h57 =>
    some (.inl (), h57)
theorem zmSX_26 : ∀ (x1 : zq) (x2 : Int32) (x3 : Int32) (x4 : zq) (x5 : zq) (h : zH) (r : Unit ⊕ Nat) (h' : zH), zmX_26 x1 x2 x3 x4 x5 h = some (r, h') → zAt 79 26 [none, some (zrv x1), some (zI x2), some (zI x3), some (zrv x4), some (zrv x5), none] [] h (zoU r) h' := by
  intro x1 x2 x3 x4 x5 h r h' H
  unfold zmX_26 at H
  refine zA_ldn rfl rfl rfl ?_
  rcases zite_e H with ⟨c21, H⟩ | ⟨c21, H⟩
  · refine zA_brT (c := x3 ≤ 0) rfl rfl rfl c21 ?_
    refine zA_tr (L := [none, some (zrv x1), some (zI x2), none, some (zrv x4), some (zrv x5), none]) rfl rfl ?_
    refine zA_aldn rfl rfl rfl ?_
    obtain ⟨p22, i23, e24, c25, H⟩ := zob_e H
    refine zA_gf3 rfl rfl e24 c25 ?_
    refine zA_ldn rfl rfl rfl ?_
    refine zA_push rfl rfl zkk5 ?_
    obtain ⟨p26, i27, j28, e29, c30, c31, e32, H⟩ := zar_e H
    obtain ⟨h33, e34, H⟩ := zlet_e H
    refine zA_bas rfl rfl e29 c30 c31 e32 (by decide) e34 ?_
    refine zA_aldn rfl rfl rfl ?_
    refine zA_gf3 rfl rfl e24 c25 ?_
    refine zA_ldn rfl rfl rfl ?_
    refine zA_ald rfl rfl rfl ?_
    obtain ⟨p35, i36, e37, c38, H⟩ := zob_e H
    refine zA_gf3 rfl rfl e37 c38 ?_
    obtain ⟨p39, i40, j41, e42, c43, c44, e45, H⟩ := zaw_e H
    obtain ⟨h46, e47, H⟩ := zlet_e H
    refine zA_aaw rfl rfl e42 c43 c44 e45 e47 ?_
    refine zA_ald rfl rfl rfl ?_
    refine zA_ald rfl rfl rfl ?_
    refine zA_push rfl rfl zkk26 ?_
    refine zA_push rfl rfl zkk7 ?_
    rcases zb_e H with ⟨u52, h51, C, H⟩ | ⟨E, h51, C, H⟩
    · refine zA_callU (as := [zrv x5, zrv x4, zrv (none : zq), zI (0 : Int32)]) (st' := []) rfl rfl rfl (zrcv_Q e37 c38) rfl (zmE29 _ _ _ _) rfl (zmS29 C) ?_
      refine zA_tr (L := [none, none, none, none, none, none, none]) rfl rfl ?_
      cases H
      exact zA_ret rfl rfl
    · cases H
      exact zA_callX (as := [zrv x5, zrv x4, zrv (none : zq), zI (0 : Int32)]) (st' := []) rfl rfl (zrcv_Q e37 c38) rfl (zmE29 _ _ _ _) rfl rfl rfl (zmS29 C)
  · refine zA_brF (c := x3 ≤ 0) rfl rfl rfl c21 ?_
    refine zA_ald rfl rfl rfl ?_
    refine zA_ald rfl rfl rfl ?_
    obtain ⟨p53, i54, e55, c56, H⟩ := zob_e H
    refine zA_gf3 rfl rfl e55 c56 ?_
    refine zA_ald rfl rfl rfl ?_
    refine zA_ldn rfl rfl rfl ?_
    rcases zb_e H with ⟨u58, h57, C, H⟩ | ⟨E, h57, C, H⟩
    · refine zA_callU (as := [zrv x5, zrv (zr h p53 i54 0), zrv x4, zI x3]) (st' := []) rfl rfl rfl (zrcv_Q e55 c56) rfl (zmE29 _ _ _ _) rfl (zmS29 C) ?_
      refine zA_go rfl rfl ?_
      refine zA_tr (L := [none, none, none, none, none, none, none]) rfl rfl ?_
      cases H
      exact zA_ret rfl rfl
    · cases H
      exact zA_callX (as := [zrv x5, zrv (zr h p53 i54 0), zrv x4, zI x3]) (st' := []) rfl rfl (zrcv_Q e55 c56) rfl (zmE29 _ _ _ _) rfl rfl rfl (zmS29 C)
def zmX (x0 : zq) (x1 : zq) (x2 : Int32) (x3 : Int32) (h : zH) : zRs Unit :=
  zob 5 x1 fun p21 i22 =>
  zlet (zr h p21 i22 0) fun x25 =>
  zob 11 x0 fun p27 i28 =>
  zob 0 x25 fun p31 i32 =>
  zra (zr h p27 i28 6) (zi h p31 i32 1) h fun v42 =>
  zob 8 v42 fun p44 i45 =>
  zra (zr h p44 i45 0) x2 h fun v55 =>
  zb (zm66 x0 x25 v55 h) fun x58 h57 =>
  if x58 = none then
    zmX_26 x1 x2 x3 x25 v55 h57
  else
    zob 5 x58 fun p60 i61 =>
    zlet (zsi h57 p60 i61 2 (1 : Int32)) fun h64 =>
    zb (zm58 x0 (zr h64 p60 i61 0) h64) fun _ h66 =>
    zmX_26 x1 x2 x3 x25 v55 h66
