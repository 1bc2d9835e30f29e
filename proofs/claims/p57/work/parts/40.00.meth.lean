set_option maxRecDepth 16384
/-! The methods read back (printed by wip/whole/gen/dec.py). -/
theorem zkk0 : ∀ (pc : Nat) (L : zLs) (st : List zV) (h : zH), zsLoc (.bipush 8) [] pc L st h = some (pc + 1, L, zI (8 : Int32) :: st, h) := by
  intro pc L st h
  have e : (Int8.ofInt 8).toInt32 = (8 : Int32) := by decide
  show some (pc + 1, L, zI ((Int8.ofInt 8).toInt32) :: st, h) = _
  rw [e]
theorem zkk1 : ∀ (pc : Nat) (L : zLs) (st : List zV) (h : zH), zsLoc (.bipush 17) [] pc L st h = some (pc + 1, L, zI (17 : Int32) :: st, h) := by
  intro pc L st h
  have e : (Int8.ofInt 17).toInt32 = (17 : Int32) := by decide
  show some (pc + 1, L, zI ((Int8.ofInt 17).toInt32) :: st, h) = _
  rw [e]
theorem zkk2 : ∀ (pc : Nat) (L : zLs) (st : List zV) (h : zH), zsLoc (.dconst 1) [] pc L st h = some (pc + 1, L, zD (4607182418800017408 : UInt64) :: st, h) := by
  intro pc L st h
  rfl
theorem zkk3 : ∀ (pc : Nat) (L : zLs) (st : List zV) (h : zH), zsLoc (.iconst 3) [] pc L st h = some (pc + 1, L, zI (3 : Int32) :: st, h) := by
  intro pc L st h
  have e : (Int32.ofInt 3) = (3 : Int32) := by decide
  show some (pc + 1, L, zI ((Int32.ofInt 3)) :: st, h) = _
  rw [e]
theorem zkk4 : ∀ (pc : Nat) (L : zLs) (st : List zV) (h : zH), zsLoc (.sipush 200) [] pc L st h = some (pc + 1, L, zI (200 : Int32) :: st, h) := by
  intro pc L st h
  have e : (Int16.ofInt 200).toInt32 = (200 : Int32) := by decide
  show some (pc + 1, L, zI ((Int16.ofInt 200).toInt32) :: st, h) = _
  rw [e]
theorem zkk5 : ∀ (pc : Nat) (L : zLs) (st : List zV) (h : zH), zsLoc (.iconst 1) [] pc L st h = some (pc + 1, L, zI (1 : Int32) :: st, h) := by
  intro pc L st h
  have e : (Int32.ofInt 1) = (1 : Int32) := by decide
  show some (pc + 1, L, zI ((Int32.ofInt 1)) :: st, h) = _
  rw [e]
theorem zkk6 : ∀ (pc : Nat) (L : zLs) (st : List zV) (h : zH), zsLoc (.iconst (-1)) [] pc L st h = some (pc + 1, L, zI (-1 : Int32) :: st, h) := by
  intro pc L st h
  have e : (Int32.ofInt (-1)) = (-1 : Int32) := by decide
  show some (pc + 1, L, zI ((Int32.ofInt (-1))) :: st, h) = _
  rw [e]
theorem zkk7 : ∀ (pc : Nat) (L : zLs) (st : List zV) (h : zH), zsLoc (.iconst 0) [] pc L st h = some (pc + 1, L, zI (0 : Int32) :: st, h) := by
  intro pc L st h
  have e : (Int32.ofInt 0) = (0 : Int32) := by decide
  show some (pc + 1, L, zI ((Int32.ofInt 0)) :: st, h) = _
  rw [e]
theorem zkk8 : Int32.ofInt 1 = (1 : Int32) := by decide
theorem zkk9 : ∀ (pc : Nat) (L : zLs) (st : List zV) (h : zH), zsLoc (.iconst 4) [] pc L st h = some (pc + 1, L, zI (4 : Int32) :: st, h) := by
  intro pc L st h
  have e : (Int32.ofInt 4) = (4 : Int32) := by decide
  show some (pc + 1, L, zI ((Int32.ofInt 4)) :: st, h) = _
  rw [e]
theorem zkk10 : ∀ (pc : Nat) (L : zLs) (st : List zV) (h : zH), zsLoc (.sipush 7919) [] pc L st h = some (pc + 1, L, zI (7919 : Int32) :: st, h) := by
  intro pc L st h
  have e : (Int16.ofInt 7919).toInt32 = (7919 : Int32) := by decide
  show some (pc + 1, L, zI ((Int16.ofInt 7919).toInt32) :: st, h) = _
  rw [e]
theorem zkk11 : ∀ (pc : Nat) (L : zLs) (st : List zV) (h : zH), zsLoc (.bipush 11) [] pc L st h = some (pc + 1, L, zI (11 : Int32) :: st, h) := by
  intro pc L st h
  have e : (Int8.ofInt 11).toInt32 = (11 : Int32) := by decide
  show some (pc + 1, L, zI ((Int8.ofInt 11).toInt32) :: st, h) = _
  rw [e]
theorem zkk12 : ∀ (pc : Nat) (L : zLs) (st : List zV) (h : zH), zsLoc (.ldc 7) [2147483647] pc L st h = some (pc + 1, L, zI (2147483647 : Int32) :: st, h) := by
  intro pc L st h
  have e : nI 2147483647 = (2147483647 : Int32) := by decide
  show some (pc + 1, L, zI (nI 2147483647) :: st, h) = _
  rw [e]
theorem zkk13 : ∀ (pc : Nat) (L : zLs) (st : List zV) (h : zH), zsLoc (.bipush 10) [] pc L st h = some (pc + 1, L, zI (10 : Int32) :: st, h) := by
  intro pc L st h
  have e : (Int8.ofInt 10).toInt32 = (10 : Int32) := by decide
  show some (pc + 1, L, zI ((Int8.ofInt 10).toInt32) :: st, h) = _
  rw [e]
theorem zkk14 : ∀ (pc : Nat) (L : zLs) (st : List zV) (h : zH), zsLoc (.bipush 6) [] pc L st h = some (pc + 1, L, zI (6 : Int32) :: st, h) := by
  intro pc L st h
  have e : (Int8.ofInt 6).toInt32 = (6 : Int32) := by decide
  show some (pc + 1, L, zI ((Int8.ofInt 6).toInt32) :: st, h) = _
  rw [e]
theorem zkk15 : ∀ (pc : Nat) (L : zLs) (st : List zV) (h : zH), zsLoc (.iconst 2) [] pc L st h = some (pc + 1, L, zI (2 : Int32) :: st, h) := by
  intro pc L st h
  have e : (Int32.ofInt 2) = (2 : Int32) := by decide
  show some (pc + 1, L, zI ((Int32.ofInt 2)) :: st, h) = _
  rw [e]
theorem zkk16 : ∀ (pc : Nat) (L : zLs) (st : List zV) (h : zH), zsLoc (.iconst 5) [] pc L st h = some (pc + 1, L, zI (5 : Int32) :: st, h) := by
  intro pc L st h
  have e : (Int32.ofInt 5) = (5 : Int32) := by decide
  show some (pc + 1, L, zI ((Int32.ofInt 5)) :: st, h) = _
  rw [e]
theorem zkk17 : ∀ (pc : Nat) (L : zLs) (st : List zV) (h : zH), zsLoc (.sipush 1000) [] pc L st h = some (pc + 1, L, zI (1000 : Int32) :: st, h) := by
  intro pc L st h
  have e : (Int16.ofInt 1000).toInt32 = (1000 : Int32) := by decide
  show some (pc + 1, L, zI ((Int16.ofInt 1000).toInt32) :: st, h) = _
  rw [e]
theorem zkk18 : ∀ (pc : Nat) (L : zLs) (st : List zV) (h : zH), zsLoc (.bipush 100) [] pc L st h = some (pc + 1, L, zI (100 : Int32) :: st, h) := by
  intro pc L st h
  have e : (Int8.ofInt 100).toInt32 = (100 : Int32) := by decide
  show some (pc + 1, L, zI ((Int8.ofInt 100).toInt32) :: st, h) = _
  rw [e]
theorem zkk19 : ∀ (pc : Nat) (L : zLs) (st : List zV) (h : zH), zsLoc (.sipush 255) [] pc L st h = some (pc + 1, L, zI (255 : Int32) :: st, h) := by
  intro pc L st h
  have e : (Int16.ofInt 255).toInt32 = (255 : Int32) := by decide
  show some (pc + 1, L, zI ((Int16.ofInt 255).toInt32) :: st, h) = _
  rw [e]
theorem zkk20 : ∀ (pc : Nat) (L : zLs) (st : List zV) (h : zH), zsLoc (.bipush 7) [] pc L st h = some (pc + 1, L, zI (7 : Int32) :: st, h) := by
  intro pc L st h
  have e : (Int8.ofInt 7).toInt32 = (7 : Int32) := by decide
  show some (pc + 1, L, zI ((Int8.ofInt 7).toInt32) :: st, h) = _
  rw [e]
theorem zkk21 : ∀ (pc : Nat) (L : zLs) (st : List zV) (h : zH), zsLoc (.bipush 30) [] pc L st h = some (pc + 1, L, zI (30 : Int32) :: st, h) := by
  intro pc L st h
  have e : (Int8.ofInt 30).toInt32 = (30 : Int32) := by decide
  show some (pc + 1, L, zI ((Int8.ofInt 30).toInt32) :: st, h) = _
  rw [e]
theorem zkk22 : ∀ (pc : Nat) (L : zLs) (st : List zV) (h : zH), zsLoc (.aconst_null) [] pc L st h = some (pc + 1, L, zrv (none : zq) :: st, h) := by
  intro pc L st h
  rfl
theorem zkk23 : ∀ (pc : Nat) (L : zLs) (st : List zV) (h : zH), zsLoc (.bipush 20) [] pc L st h = some (pc + 1, L, zI (20 : Int32) :: st, h) := by
  intro pc L st h
  have e : (Int8.ofInt 20).toInt32 = (20 : Int32) := by decide
  show some (pc + 1, L, zI ((Int8.ofInt 20).toInt32) :: st, h) = _
  rw [e]
theorem zkk24 : ∀ (pc : Nat) (L : zLs) (st : List zV) (h : zH), zsLoc (.bipush 50) [] pc L st h = some (pc + 1, L, zI (50 : Int32) :: st, h) := by
  intro pc L st h
  have e : (Int8.ofInt 50).toInt32 = (50 : Int32) := by decide
  show some (pc + 1, L, zI ((Int8.ofInt 50).toInt32) :: st, h) = _
  rw [e]
theorem zkk25 : Int32.ofInt 2 = (2 : Int32) := by decide
theorem zkk26 : ∀ (pc : Nat) (L : zLs) (st : List zV) (h : zH), zsLoc (.ldc_w 265) [1431655765] pc L st h = some (pc + 1, L, zI (1431655765 : Int32) :: st, h) := by
  intro pc L st h
  have e : nI 1431655765 = (1431655765 : Int32) := by decide
  show some (pc + 1, L, zI (nI 1431655765) :: st, h) = _
  rw [e]
theorem zkk27 : ∀ (pc : Nat) (L : zLs) (st : List zV) (h : zH), zsLoc (.ldc_w 266) [858993459] pc L st h = some (pc + 1, L, zI (858993459 : Int32) :: st, h) := by
  intro pc L st h
  have e : nI 858993459 = (858993459 : Int32) := by decide
  show some (pc + 1, L, zI (nI 858993459) :: st, h) = _
  rw [e]
theorem zkk28 : ∀ (pc : Nat) (L : zLs) (st : List zV) (h : zH), zsLoc (.ldc_w 267) [252645135] pc L st h = some (pc + 1, L, zI (252645135 : Int32) :: st, h) := by
  intro pc L st h
  have e : nI 252645135 = (252645135 : Int32) := by decide
  show some (pc + 1, L, zI (nI 252645135) :: st, h) = _
  rw [e]
theorem zkk29 : ∀ (pc : Nat) (L : zLs) (st : List zV) (h : zH), zsLoc (.bipush 16) [] pc L st h = some (pc + 1, L, zI (16 : Int32) :: st, h) := by
  intro pc L st h
  have e : (Int8.ofInt 16).toInt32 = (16 : Int32) := by decide
  show some (pc + 1, L, zI ((Int8.ofInt 16).toInt32) :: st, h) = _
  rw [e]
theorem zkk30 : ∀ (pc : Nat) (L : zLs) (st : List zV) (h : zH), zsLoc (.bipush 63) [] pc L st h = some (pc + 1, L, zI (63 : Int32) :: st, h) := by
  intro pc L st h
  have e : (Int8.ofInt 63).toInt32 = (63 : Int32) := by decide
  show some (pc + 1, L, zI ((Int8.ofInt 63).toInt32) :: st, h) = _
  rw [e]
theorem zkk31 : ∀ (pc : Nat) (L : zLs) (st : List zV) (h : zH), zsLoc (.bipush 9) [] pc L st h = some (pc + 1, L, zI (9 : Int32) :: st, h) := by
  intro pc L st h
  have e : (Int8.ofInt 9).toInt32 = (9 : Int32) := by decide
  show some (pc + 1, L, zI ((Int8.ofInt 9).toInt32) :: st, h) = _
  rw [e]
theorem zkk32 : ∀ (pc : Nat) (L : zLs) (st : List zV) (h : zH), zsLoc (.ldc2_w 74) [4626322717216342016] pc L st h = some (pc + 1, L, zD (4626322717216342016 : UInt64) :: st, h) := by
  intro pc L st h
  rfl
theorem zkk33 : ∀ (pc : Nat) (L : zLs) (st : List zV) (h : zH), zsLoc (.bipush 12) [] pc L st h = some (pc + 1, L, zI (12 : Int32) :: st, h) := by
  intro pc L st h
  have e : (Int8.ofInt 12).toInt32 = (12 : Int32) := by decide
  show some (pc + 1, L, zI ((Int8.ofInt 12).toInt32) :: st, h) = _
  rw [e]
theorem zkk34 : ∀ (pc : Nat) (L : zLs) (st : List zV) (h : zH), zsLoc (.sipush 20000) [] pc L st h = some (pc + 1, L, zI (20000 : Int32) :: st, h) := by
  intro pc L st h
  have e : (Int16.ofInt 20000).toInt32 = (20000 : Int32) := by decide
  show some (pc + 1, L, zI ((Int16.ofInt 20000).toInt32) :: st, h) = _
  rw [e]
theorem zkk35 : ∀ (pc : Nat) (L : zLs) (st : List zV) (h : zH), zsLoc (.bipush 13) [] pc L st h = some (pc + 1, L, zI (13 : Int32) :: st, h) := by
  intro pc L st h
  have e : (Int8.ofInt 13).toInt32 = (13 : Int32) := by decide
  show some (pc + 1, L, zI ((Int8.ofInt 13).toInt32) :: st, h) = _
  rw [e]
theorem zkk36 : ∀ (pc : Nat) (L : zLs) (st : List zV) (h : zH), zsLoc (.bipush 14) [] pc L st h = some (pc + 1, L, zI (14 : Int32) :: st, h) := by
  intro pc L st h
  have e : (Int8.ofInt 14).toInt32 = (14 : Int32) := by decide
  show some (pc + 1, L, zI ((Int8.ofInt 14).toInt32) :: st, h) = _
  rw [e]
theorem zkk37 : ∀ (pc : Nat) (L : zLs) (st : List zV) (h : zH), zsLoc (.bipush 37) [] pc L st h = some (pc + 1, L, zI (37 : Int32) :: st, h) := by
  intro pc L st h
  have e : (Int8.ofInt 37).toInt32 = (37 : Int32) := by decide
  show some (pc + 1, L, zI ((Int8.ofInt 37).toInt32) :: st, h) = _
  rw [e]
theorem zkk38 : ∀ (pc : Nat) (L : zLs) (st : List zV) (h : zH), zsLoc (.sipush 199) [] pc L st h = some (pc + 1, L, zI (199 : Int32) :: st, h) := by
  intro pc L st h
  have e : (Int16.ofInt 199).toInt32 = (199 : Int32) := by decide
  show some (pc + 1, L, zI ((Int16.ofInt 199).toInt32) :: st, h) = _
  rw [e]
theorem zkk39 : ∀ (pc : Nat) (L : zLs) (st : List zV) (h : zH), zsLoc (.bipush 40) [] pc L st h = some (pc + 1, L, zI (40 : Int32) :: st, h) := by
  intro pc L st h
  have e : (Int8.ofInt 40).toInt32 = (40 : Int32) := by decide
  show some (pc + 1, L, zI ((Int8.ofInt 40).toInt32) :: st, h) = _
  rw [e]
theorem zkk40 : ∀ (pc : Nat) (L : zLs) (st : List zV) (h : zH), zsLoc (.ldc2_w 78) [4602678819172646912] pc L st h = some (pc + 1, L, zD (4602678819172646912 : UInt64) :: st, h) := by
  intro pc L st h
  rfl
theorem zkk41 : ∀ (pc : Nat) (L : zLs) (st : List zV) (h : zH), zsLoc (.ldc2_w 76) [4609434218613702656] pc L st h = some (pc + 1, L, zD (4609434218613702656 : UInt64) :: st, h) := by
  intro pc L st h
  rfl
theorem zkk42 : ∀ (pc : Nat) (L : zLs) (st : List zV) (h : zH), zsLoc (.ldc_w 456) [60000] pc L st h = some (pc + 1, L, zI (60000 : Int32) :: st, h) := by
  intro pc L st h
  have e : nI 60000 = (60000 : Int32) := by decide
  show some (pc + 1, L, zI (nI 60000) :: st, h) = _
  rw [e]
theorem zkk43 : ∀ (pc : Nat) (L : zLs) (st : List zV) (h : zH), zsLoc (.sipush 600) [] pc L st h = some (pc + 1, L, zI (600 : Int32) :: st, h) := by
  intro pc L st h
  have e : (Int16.ofInt 600).toInt32 = (600 : Int32) := by decide
  show some (pc + 1, L, zI ((Int16.ofInt 600).toInt32) :: st, h) = _
  rw [e]
theorem zkk44 : ∀ (pc : Nat) (L : zLs) (st : List zV) (h : zH), zsLoc (.dconst 0) [] pc L st h = some (pc + 1, L, zD (0 : UInt64) :: st, h) := by
  intro pc L st h
  rfl
theorem zkk45 : ∀ (pc : Nat) (L : zLs) (st : List zV) (h : zH), zsLoc (.bipush 60) [] pc L st h = some (pc + 1, L, zI (60 : Int32) :: st, h) := by
  intro pc L st h
  have e : (Int8.ofInt 60).toInt32 = (60 : Int32) := by decide
  show some (pc + 1, L, zI ((Int8.ofInt 60).toInt32) :: st, h) = _
  rw [e]
theorem zkk46 : ∀ (pc : Nat) (L : zLs) (st : List zV) (h : zH), zsLoc (.sipush 500) [] pc L st h = some (pc + 1, L, zI (500 : Int32) :: st, h) := by
  intro pc L st h
  have e : (Int16.ofInt 500).toInt32 = (500 : Int32) := by decide
  show some (pc + 1, L, zI ((Int16.ofInt 500).toInt32) :: st, h) = _
  rw [e]
theorem zkk47 : ∀ (pc : Nat) (L : zLs) (st : List zV) (h : zH), zsLoc (.sipush 300) [] pc L st h = some (pc + 1, L, zI (300 : Int32) :: st, h) := by
  intro pc L st h
  have e : (Int16.ofInt 300).toInt32 = (300 : Int32) := by decide
  show some (pc + 1, L, zI ((Int16.ofInt 300).toInt32) :: st, h) = _
  rw [e]
theorem zkk48 : Int32.ofInt 6 = (6 : Int32) := by decide
theorem zkk49 : ∀ (pc : Nat) (L : zLs) (st : List zV) (h : zH), zsLoc (.bipush 15) [] pc L st h = some (pc + 1, L, zI (15 : Int32) :: st, h) := by
  intro pc L st h
  have e : (Int8.ofInt 15).toInt32 = (15 : Int32) := by decide
  show some (pc + 1, L, zI ((Int8.ofInt 15).toInt32) :: st, h) = _
  rw [e]
theorem zkk50 : ∀ (pc : Nat) (L : zLs) (st : List zV) (h : zH), zsLoc (.bipush (-4)) [] pc L st h = some (pc + 1, L, zI (-4 : Int32) :: st, h) := by
  intro pc L st h
  have e : (Int8.ofInt (-4)).toInt32 = (-4 : Int32) := by decide
  show some (pc + 1, L, zI ((Int8.ofInt (-4)).toInt32) :: st, h) = _
  rw [e]
theorem zkk51 : ∀ (pc : Nat) (L : zLs) (st : List zV) (h : zH), zsLoc (.bipush 120) [] pc L st h = some (pc + 1, L, zI (120 : Int32) :: st, h) := by
  intro pc L st h
  have e : (Int8.ofInt 120).toInt32 = (120 : Int32) := by decide
  show some (pc + 1, L, zI ((Int8.ofInt 120).toInt32) :: st, h) = _
  rw [e]
theorem zkk52 : ∀ (pc : Nat) (L : zLs) (st : List zV) (h : zH), zsLoc (.sipush 240) [] pc L st h = some (pc + 1, L, zI (240 : Int32) :: st, h) := by
  intro pc L st h
  have e : (Int16.ofInt 240).toInt32 = (240 : Int32) := by decide
  show some (pc + 1, L, zI ((Int16.ofInt 240).toInt32) :: st, h) = _
  rw [e]
-- 17: ReleaseHouse$Sample.<init>()V
def zm17 (x0 : zq) (h : zH) : zRs Unit :=
  znn x0 fun p21 i22 =>
  if (8 : Int32) < 0 ∨ 100000 < (8 : Int32).toNatClampNeg then none else
  zlet (znw h 30 (8 : Int32).toNatClampNeg (8 : Int32).toNatClampNeg) fun h25 =>
  zob 7 x0 fun p27 i28 =>
  zlet (zsr h25 p27 i28 0 (some (30, zct h 30))) fun h31 =>
  if (17 : Int32) < 0 ∨ 100000 < (17 : Int32).toNatClampNeg then none else
  zlet (znw h31 31 (17 : Int32).toNatClampNeg (17 : Int32).toNatClampNeg) fun h33 =>
  zlet (zsr h33 p27 i28 3 (some (31, zct h31 31))) fun h35 =>
  some (.inl (), h35)
theorem zmS17 {x0 : zq} {h : zH} {r : Unit ⊕ Nat} {h' : zH} (H : zm17 x0 h = some (r, h')) : zAt 17 0 [some (zrv x0)] [] h (zoU r) h' := by
  unfold zm17 at H
  refine zA_aldn rfl rfl rfl ?_
  obtain ⟨p21, i22, e23, H⟩ := znn_e H
  refine zA_l0 rfl rfl rfl e23 ?_
  refine zA_aldn rfl rfl rfl ?_
  refine zA_push rfl rfl zkk0 ?_
  rcases zite_e H with ⟨_, H⟩ | ⟨ch25, H⟩
  · cases H
  obtain ⟨h25, e26, H⟩ := zlet_e H
  refine zA_newA rfl rfl (fun _ _ _ _ _ => rfl) ch25 e26 ?_
  obtain ⟨p27, i28, e29, c30, H⟩ := zob_e H
  obtain ⟨h31, e32, H⟩ := zlet_e H
  refine zA_pf3 rfl rfl e29 c30 e32 ?_
  refine zA_aldn rfl rfl rfl ?_
  refine zA_push rfl rfl zkk1 ?_
  rcases zite_e H with ⟨_, H⟩ | ⟨ch33, H⟩
  · cases H
  obtain ⟨h33, e34, H⟩ := zlet_e H
  refine zA_newA rfl rfl (fun _ _ _ _ _ => rfl) ch33 e34 ?_
  obtain ⟨h35, e36, H⟩ := zlet_e H
  refine zA_pf3 rfl rfl e29 c30 e36 ?_
  cases H
  exact zA_ret rfl rfl
theorem zmE17 (x0 : zq) : zpad (zPr.2.1 17).1 (zil [zrv x0]) = [some (zrv x0)] := by
  simp only [zil_A, zil_I, zil_F, zil_D, zil_N]
  rfl
-- 27: ReleaseHouse$Spot.<init>()V
def zm27 (x0 : zq) (h : zH) : zRs Unit :=
  znn x0 fun p21 i22 =>
  zob 9 x0 fun p25 i26 =>
  zlet (zsd h p25 i26 4 (4607182418800017408 : UInt64)) fun h29 =>
  zlet (znw h29 7 0 4) fun h31 =>
  zob 7 (some (7, zct h29 7)) fun p33 i34 =>
  zb2 (zm17 (some (7, zct h29 7)) h31) fun _ h37 =>
  zlet (zsr h37 p25 i26 5 (some (7, zct h29 7))) fun h38 =>
  zlet (znw h38 8 0 4) fun h40 =>
  zob 7 (some (8, zct h38 8)) fun p42 i43 =>
  zb2 (zm17 (some (8, zct h38 8)) h40) fun _ h46 =>
  zlet (zsr h46 p25 i26 6 (some (8, zct h38 8))) fun h47 =>
  some (.inl (), h47)
theorem zmS27 {x0 : zq} {h : zH} {r : Unit ⊕ Nat} {h' : zH} (H : zm27 x0 h = some (r, h')) : zAt 27 0 [some (zrv x0)] [] h (zoU r) h' := by
  unfold zm27 at H
  refine zA_aldn rfl rfl rfl ?_
  obtain ⟨p21, i22, e23, H⟩ := znn_e H
  refine zA_l0 rfl rfl rfl e23 ?_
  refine zA_aldn rfl rfl rfl ?_
  refine zA_push rfl rfl zkk2 ?_
  obtain ⟨p25, i26, e27, c28, H⟩ := zob_e H
  obtain ⟨h29, e30, H⟩ := zlet_e H
  refine zA_pf2 rfl rfl e27 c28 e30 ?_
  refine zA_aldn rfl rfl rfl ?_
  obtain ⟨h31, e32, H⟩ := zlet_e H
  refine zA_new (n := 4) rfl rfl (fun _ _ _ _ => rfl) e32 ?_
  refine zA_dup rfl rfl (zcat_rv _) ?_
  obtain ⟨p33, i34, e35, c36, H⟩ := zob_e H
  obtain ⟨u50, h37, C, H⟩ := zb2_e H
  refine zA_callU (as := [zrv (some (7, zct h29 7))]) (st' := [zrv (some (7, zct h29 7)), zrv x0]) rfl rfl rfl (zrcv_Q e35 c36) rfl (zmE17 _) rfl (zmS17 C) ?_
  obtain ⟨h38, e39, H⟩ := zlet_e H
  refine zA_pf3 rfl rfl e27 c28 e39 ?_
  refine zA_aldn rfl rfl rfl ?_
  obtain ⟨h40, e41, H⟩ := zlet_e H
  refine zA_new (n := 4) rfl rfl (fun _ _ _ _ => rfl) e41 ?_
  refine zA_dup rfl rfl (zcat_rv _) ?_
  obtain ⟨p42, i43, e44, c45, H⟩ := zob_e H
  obtain ⟨u49, h46, C, H⟩ := zb2_e H
  refine zA_callU (as := [zrv (some (8, zct h38 8))]) (st' := [zrv (some (8, zct h38 8)), zrv x0]) rfl rfl rfl (zrcv_Q e44 c45) rfl (zmE17 _) rfl (zmS17 C) ?_
  obtain ⟨h47, e48, H⟩ := zlet_e H
  refine zA_pf3 rfl rfl e27 c28 e48 ?_
  cases H
  exact zA_ret rfl rfl
theorem zmE27 (x0 : zq) : zpad (zPr.2.1 27).1 (zil [zrv x0]) = [some (zrv x0)] := by
  simp only [zil_A, zil_I, zil_F, zil_D, zil_N]
  rfl
def zm24_25 : Nat → zq → Int32 → zH → zRs Unit
  | 0, _, _, _ => none
  | n + 1, x0, x1, h =>
    if (3 : Int32) ≤ x1 then
      some (.inl (), h)
    else
      zob 8 x0 fun p22 i23 =>
      zlet (znw h 10 0 7) fun h26 =>
      zob 9 (some (10, zct h 10)) fun p28 i29 =>
      zb2 (zm27 (some (10, zct h 10)) h26) fun _ h32 =>
      zas (zr h p22 i23 0) (some (10, zct h 10)) x1 h32 fun p33 i34 p42 i43 j35 =>
      zlet (zsr h32 p33 i34 j35 (some (p42, i43))) fun h40 =>
      zlet (x1 + (1 : Int32)) fun x45 =>
      zm24_25 n x0 x45 h40
theorem zmS24_25 : ∀ (n : Nat) (x0 : zq) (x1 : Int32) (h : zH) (r : Unit ⊕ Nat) (h' : zH), zm24_25 n x0 x1 h = some (r, h') → zAt 24 25 [some (zrv x0), some (zI x1)] [] h (zoU r) h' := by
  intro n
  induction n with
  | zero => intro x0 x1 h r h' H; cases H
  | succ n ih =>
    intro x0 x1 h r h' H
    unfold zm24_25 at H
    refine zA_ldn rfl rfl rfl ?_
    refine zA_push rfl rfl zkk3 ?_
    rcases zite_e H with ⟨c21, H⟩ | ⟨c21, H⟩
    · refine zA_brT (c := (3 : Int32) ≤ x1) rfl rfl rfl c21 ?_
      refine zA_tr (L := [none, none]) rfl rfl ?_
      cases H
      exact zA_ret rfl rfl
    · refine zA_brF (c := (3 : Int32) ≤ x1) rfl rfl rfl c21 ?_
      refine zA_aldn rfl rfl rfl ?_
      obtain ⟨p22, i23, e24, c25, H⟩ := zob_e H
      refine zA_gf3 rfl rfl e24 c25 ?_
      refine zA_ldn rfl rfl rfl ?_
      obtain ⟨h26, e27, H⟩ := zlet_e H
      refine zA_new (n := 7) rfl rfl (fun _ _ _ _ => rfl) e27 ?_
      refine zA_dup rfl rfl (zcat_rv _) ?_
      obtain ⟨p28, i29, e30, c31, H⟩ := zob_e H
      obtain ⟨u47, h32, C, H⟩ := zb2_e H
      refine zA_callU (as := [zrv (some (10, zct h 10))]) (st' := [zrv (some (10, zct h 10)), zI x1, zrv (zr h p22 i23 0)]) rfl rfl rfl (zrcv_Q e30 c31) rfl (zmE27 _) rfl (zmS27 C) ?_
      obtain ⟨p33, i34, p42, i43, j35, e36, e44, c37, c38, e39, H⟩ := zas_e H
      obtain ⟨h40, e41, H⟩ := zlet_e H
      refine zA_aas rfl rfl e36 e44 c37 c38 e39 e41 ?_
      obtain ⟨x45, e46, H⟩ := zlet_e H
      refine zA_inc rfl rfl rfl (e46.trans (congrArg (_ + ·) zkk8)) (zset1 (L' := [some (zrv x0), some (zI x45)]) rfl rfl (zpcV rfl (zcat_rv _))) ?_
      refine zA_go rfl rfl ?_
      exact zA_tr (L := [some (zrv x0), some (zI x45)]) rfl rfl (ih _ _ _ _ _ H)
-- 24: ReleaseHouse$Service.<init>()V
def zm24 (x0 : zq) (h : zH) : zRs Unit :=
  znn x0 fun p21 i22 =>
  if (3 : Int32) < 0 ∨ 100000 < (3 : Int32).toNatClampNeg then none else
  zlet (znw h 27 (3 : Int32).toNatClampNeg (3 : Int32).toNatClampNeg) fun h25 =>
  zob 8 x0 fun p27 i28 =>
  zlet (zsr h25 p27 i28 0 (some (27, zct h 27))) fun h31 =>
  if (8 : Int32) < 0 ∨ 100000 < (8 : Int32).toNatClampNeg then none else
  zlet (znw h31 28 (8 : Int32).toNatClampNeg (8 : Int32).toNatClampNeg) fun h33 =>
  zlet (zsr h33 p27 i28 1 (some (28, zct h31 28))) fun h35 =>
  if (200 : Int32) < 0 ∨ 100000 < (200 : Int32).toNatClampNeg then none else
  zlet (znw h35 29 (200 : Int32).toNatClampNeg (200 : Int32).toNatClampNeg) fun h37 =>
  zlet (zsr h37 p27 i28 2 (some (29, zct h35 29))) fun h39 =>
  zlet (zsi h39 p27 i28 3 (1 : Int32)) fun h41 =>
  zlet (zsi h41 p27 i28 4 (-1 : Int32)) fun h43 =>
  zlet (zsi h43 p27 i28 5 (-1 : Int32)) fun h45 =>
  zm24_25 zN0 x0 (0 : Int32) h45
theorem zmS24 {x0 : zq} {h : zH} {r : Unit ⊕ Nat} {h' : zH} (H : zm24 x0 h = some (r, h')) : zAt 24 0 [some (zrv x0), none] [] h (zoU r) h' := by
  unfold zm24 at H
  refine zA_aldn rfl rfl rfl ?_
  obtain ⟨p21, i22, e23, H⟩ := znn_e H
  refine zA_l0 rfl rfl rfl e23 ?_
  refine zA_aldn rfl rfl rfl ?_
  refine zA_push rfl rfl zkk3 ?_
  rcases zite_e H with ⟨_, H⟩ | ⟨ch25, H⟩
  · cases H
  obtain ⟨h25, e26, H⟩ := zlet_e H
  refine zA_newA rfl rfl (fun _ _ _ _ _ => rfl) ch25 e26 ?_
  obtain ⟨p27, i28, e29, c30, H⟩ := zob_e H
  obtain ⟨h31, e32, H⟩ := zlet_e H
  refine zA_pf3 rfl rfl e29 c30 e32 ?_
  refine zA_aldn rfl rfl rfl ?_
  refine zA_push rfl rfl zkk0 ?_
  rcases zite_e H with ⟨_, H⟩ | ⟨ch33, H⟩
  · cases H
  obtain ⟨h33, e34, H⟩ := zlet_e H
  refine zA_newA rfl rfl (fun _ _ _ _ _ => rfl) ch33 e34 ?_
  obtain ⟨h35, e36, H⟩ := zlet_e H
  refine zA_pf3 rfl rfl e29 c30 e36 ?_
  refine zA_aldn rfl rfl rfl ?_
  refine zA_push rfl rfl zkk4 ?_
  rcases zite_e H with ⟨_, H⟩ | ⟨ch37, H⟩
  · cases H
  obtain ⟨h37, e38, H⟩ := zlet_e H
  refine zA_newA rfl rfl (fun _ _ _ _ _ => rfl) ch37 e38 ?_
  obtain ⟨h39, e40, H⟩ := zlet_e H
  refine zA_pf3 rfl rfl e29 c30 e40 ?_
  refine zA_aldn rfl rfl rfl ?_
  refine zA_push rfl rfl zkk5 ?_
  obtain ⟨h41, e42, H⟩ := zlet_e H
  refine zA_pf0 rfl rfl e29 c30 e42 ?_
  refine zA_aldn rfl rfl rfl ?_
  refine zA_push rfl rfl zkk6 ?_
  obtain ⟨h43, e44, H⟩ := zlet_e H
  refine zA_pf0 rfl rfl e29 c30 e44 ?_
  refine zA_aldn rfl rfl rfl ?_
  refine zA_push rfl rfl zkk6 ?_
  obtain ⟨h45, e46, H⟩ := zlet_e H
  refine zA_pf0 rfl rfl e29 c30 e46 ?_
  refine zA_push rfl rfl zkk7 ?_
  refine zA_istn2 rfl rfl rfl (zset1 (L' := [some (zrv x0), some (zI (0 : Int32))]) rfl rfl (zpcV rfl (zcat_rv _))) ?_
  exact zA_tr (L := [some (zrv x0), some (zI (0 : Int32))]) rfl rfl (zmS24_25 zN0 _ _ _ _ _ H)
theorem zmE24 (x0 : zq) : zpad (zPr.2.1 24).1 (zil [zrv x0]) = [some (zrv x0), none] := by
  simp only [zil_A, zil_I, zil_F, zil_D, zil_N]
  rfl
-- 4: ReleaseHouse$Flag.<init>()V
def zm4 (x0 : zq) (h : zH) : zRs Unit :=
  znn x0 fun p21 i22 =>
  zlet (znw h 20 0 3) fun h25 =>
  znn (some (20, zct h 20)) fun p27 i28 =>
  zif ((ztg p27 == 9) = true) <|
  zif (zi h25 p27 i28 1 = 0 ∧ zln h25 p27 i28 = 0) <|
  zlet (zsi h25 p27 i28 1 1) fun h32 =>
  zob 2 x0 fun p34 i35 =>
  zlet (zsr h32 p34 i35 0 (some (20, zct h 20))) fun h38 =>
  zlet (zsi h38 p34 i35 2 (-1 : Int32)) fun h40 =>
  some (.inl (), h40)
theorem zmS4 {x0 : zq} {h : zH} {r : Unit ⊕ Nat} {h' : zH} (H : zm4 x0 h = some (r, h')) : zAt 4 0 [some (zrv x0)] [] h (zoU r) h' := by
  unfold zm4 at H
  refine zA_aldn rfl rfl rfl ?_
  obtain ⟨p21, i22, e23, H⟩ := znn_e H
  refine zA_l0 rfl rfl rfl e23 ?_
  refine zA_aldn rfl rfl rfl ?_
  obtain ⟨h25, e26, H⟩ := zlet_e H
  refine zA_new (n := 3) rfl rfl (fun _ _ _ _ => rfl) e26 ?_
  refine zA_dup rfl rfl (zcat_rv _) ?_
  obtain ⟨p27, i28, e29, H⟩ := znn_e H
  obtain ⟨c30, H⟩ := zif_e H
  obtain ⟨c31, H⟩ := zif_e H
  obtain ⟨h32, e33, H⟩ := zlet_e H
  refine zA_l1 rfl rfl rfl e29 c30 c31 e33 ?_
  obtain ⟨p34, i35, e36, c37, H⟩ := zob_e H
  obtain ⟨h38, e39, H⟩ := zlet_e H
  refine zA_pf3 rfl rfl e36 c37 e39 ?_
  refine zA_aldn rfl rfl rfl ?_
  refine zA_push rfl rfl zkk6 ?_
  obtain ⟨h40, e41, H⟩ := zlet_e H
  refine zA_pf0 rfl rfl e36 c37 e41 ?_
  cases H
  exact zA_ret rfl rfl
theorem zmE4 (x0 : zq) : zpad (zPr.2.1 4).1 (zil [zrv x0]) = [some (zrv x0)] := by
  simp only [zil_A, zil_I, zil_F, zil_D, zil_N]
  rfl
def zm39_57 (k69 : zq → zH → zRs Unit) : Nat → zq → Int32 → zH → zRs Unit
  | 0, _, _, _ => none
  | n + 1, x0, x1, h =>
    if (4 : Int32) ≤ x1 then
      k69 x0 h
    else
      zob 11 x0 fun p22 i23 =>
      zlet (znw h 9 0 8) fun h26 =>
      zob 8 (some (9, zct h 9)) fun p28 i29 =>
      zb2 (zm24 (some (9, zct h 9)) h26) fun _ h32 =>
      zas (zr h p22 i23 6) (some (9, zct h 9)) x1 h32 fun p33 i34 p42 i43 j35 =>
      zlet (zsr h32 p33 i34 j35 (some (p42, i43))) fun h40 =>
      zlet (x1 + (1 : Int32)) fun x45 =>
      zm39_57 k69 n x0 x45 h40
theorem zmS39_57 {k69 : zq → zH → zRs Unit} (hk69 : ∀ (x0 : zq) (h : zH) (r : Unit ⊕ Nat) (h' : zH), k69 x0 h = some (r, h') → zAt 39 69 [some (zrv x0), none] [] h (zoU r) h') : ∀ (n : Nat) (x0 : zq) (x1 : Int32) (h : zH) (r : Unit ⊕ Nat) (h' : zH), zm39_57 k69 n x0 x1 h = some (r, h') → zAt 39 57 [some (zrv x0), some (zI x1)] [] h (zoU r) h' := by
  intro n
  induction n with
  | zero => intro x0 x1 h r h' H; cases H
  | succ n ih =>
    intro x0 x1 h r h' H
    unfold zm39_57 at H
    refine zA_ldn rfl rfl rfl ?_
    refine zA_push rfl rfl zkk9 ?_
    rcases zite_e H with ⟨c21, H⟩ | ⟨c21, H⟩
    · refine zA_brT (c := (4 : Int32) ≤ x1) rfl rfl rfl c21 ?_
      exact zA_tr (L := [some (zrv x0), none]) rfl rfl (hk69 _ _ _ _ H)
    · refine zA_brF (c := (4 : Int32) ≤ x1) rfl rfl rfl c21 ?_
      refine zA_aldn rfl rfl rfl ?_
      obtain ⟨p22, i23, e24, c25, H⟩ := zob_e H
      refine zA_gf3 rfl rfl e24 c25 ?_
      refine zA_ldn rfl rfl rfl ?_
      obtain ⟨h26, e27, H⟩ := zlet_e H
      refine zA_new (n := 8) rfl rfl (fun _ _ _ _ => rfl) e27 ?_
      refine zA_dup rfl rfl (zcat_rv _) ?_
      obtain ⟨p28, i29, e30, c31, H⟩ := zob_e H
      obtain ⟨u47, h32, C, H⟩ := zb2_e H
      refine zA_callU (as := [zrv (some (9, zct h 9))]) (st' := [zrv (some (9, zct h 9)), zI x1, zrv (zr h p22 i23 6)]) rfl rfl rfl (zrcv_Q e30 c31) rfl (zmE24 _) rfl (zmS24 C) ?_
      obtain ⟨p33, i34, p42, i43, j35, e36, e44, c37, c38, e39, H⟩ := zas_e H
      obtain ⟨h40, e41, H⟩ := zlet_e H
      refine zA_aas rfl rfl e36 e44 c37 c38 e39 e41 ?_
      obtain ⟨x45, e46, H⟩ := zlet_e H
      refine zA_inc rfl rfl rfl (e46.trans (congrArg (_ + ·) zkk8)) (zset1 (L' := [some (zrv x0), some (zI x45)]) rfl rfl (zpcV rfl (zcat_rv _))) ?_
      refine zA_go rfl rfl ?_
      exact zA_tr (L := [some (zrv x0), some (zI x45)]) rfl rfl (ih _ _ _ _ _ H)
def zm39_71 : Nat → zq → Int32 → zH → zRs Unit
  | 0, _, _, _ => none
  | n + 1, x0, x1, h =>
    if (8 : Int32) ≤ x1 then
      some (.inl (), h)
    else
      zob 11 x0 fun p22 i23 =>
      zlet (znw h 2 0 5) fun h26 =>
      zob 2 (some (2, zct h 2)) fun p28 i29 =>
      zb2 (zm4 (some (2, zct h 2)) h26) fun _ h32 =>
      zas (zr h p22 i23 7) (some (2, zct h 2)) x1 h32 fun p33 i34 p42 i43 j35 =>
      zlet (zsr h32 p33 i34 j35 (some (p42, i43))) fun h40 =>
      zlet (x1 + (1 : Int32)) fun x45 =>
      zm39_71 n x0 x45 h40
theorem zmS39_71 : ∀ (n : Nat) (x0 : zq) (x1 : Int32) (h : zH) (r : Unit ⊕ Nat) (h' : zH), zm39_71 n x0 x1 h = some (r, h') → zAt 39 71 [some (zrv x0), some (zI x1)] [] h (zoU r) h' := by
  intro n
  induction n with
  | zero => intro x0 x1 h r h' H; cases H
  | succ n ih =>
    intro x0 x1 h r h' H
    unfold zm39_71 at H
    refine zA_ldn rfl rfl rfl ?_
    refine zA_push rfl rfl zkk0 ?_
    rcases zite_e H with ⟨c21, H⟩ | ⟨c21, H⟩
    · refine zA_brT (c := (8 : Int32) ≤ x1) rfl rfl rfl c21 ?_
      refine zA_tr (L := [none, none]) rfl rfl ?_
      cases H
      exact zA_ret rfl rfl
    · refine zA_brF (c := (8 : Int32) ≤ x1) rfl rfl rfl c21 ?_
      refine zA_aldn rfl rfl rfl ?_
      obtain ⟨p22, i23, e24, c25, H⟩ := zob_e H
      refine zA_gf3 rfl rfl e24 c25 ?_
      refine zA_ldn rfl rfl rfl ?_
      obtain ⟨h26, e27, H⟩ := zlet_e H
      refine zA_new (n := 5) rfl rfl (fun _ _ _ _ => rfl) e27 ?_
      refine zA_dup rfl rfl (zcat_rv _) ?_
      obtain ⟨p28, i29, e30, c31, H⟩ := zob_e H
      obtain ⟨u47, h32, C, H⟩ := zb2_e H
      refine zA_callU (as := [zrv (some (2, zct h 2))]) (st' := [zrv (some (2, zct h 2)), zI x1, zrv (zr h p22 i23 7)]) rfl rfl rfl (zrcv_Q e30 c31) rfl (zmE4 _) rfl (zmS4 C) ?_
      obtain ⟨p33, i34, p42, i43, j35, e36, e44, c37, c38, e39, H⟩ := zas_e H
      obtain ⟨h40, e41, H⟩ := zlet_e H
      refine zA_aas rfl rfl e36 e44 c37 c38 e39 e41 ?_
      obtain ⟨x45, e46, H⟩ := zlet_e H
      refine zA_inc rfl rfl rfl (e46.trans (congrArg (_ + ·) zkk8)) (zset1 (L' := [some (zrv x0), some (zI x45)]) rfl rfl (zpcV rfl (zcat_rv _))) ?_
      refine zA_go rfl rfl ?_
      exact zA_tr (L := [some (zrv x0), some (zI x45)]) rfl rfl (ih _ _ _ _ _ H)
def zm39_69 (x0 : zq) (h : zH) : zRs Unit :=
  zm39_71 zN0 x0 (0 : Int32) h
theorem zmS39_69 : ∀ (x0 : zq) (h : zH) (r : Unit ⊕ Nat) (h' : zH), zm39_69 x0 h = some (r, h') → zAt 39 69 [some (zrv x0), none] [] h (zoU r) h' := by
  intro x0 h r h' H
  unfold zm39_69 at H
  refine zA_push rfl rfl zkk7 ?_
  refine zA_istn2 rfl rfl rfl (zset1 (L' := [some (zrv x0), some (zI (0 : Int32))]) rfl rfl (zpcV rfl (zcat_rv _))) ?_
  exact zA_tr (L := [some (zrv x0), some (zI (0 : Int32))]) rfl rfl (zmS39_71 zN0 _ _ _ _ _ H)
-- 39: ReleaseHouse.<init>()V
def zm39 (x0 : zq) (h : zH) : zRs Unit :=
  znn x0 fun p21 i22 =>
  zlet (znw h 14 0 3) fun h25 =>
  znn (some (14, zct h 14)) fun p27 i28 =>
  zif ((ztg p27 == 9) = true) <|
  zif (zi h25 p27 i28 1 = 0 ∧ zln h25 p27 i28 = 0) <|
  zlet (zsi h25 p27 i28 1 1) fun h32 =>
  zob 11 x0 fun p34 i35 =>
  zlet (zsr h32 p34 i35 0 (some (14, zct h 14))) fun h38 =>
  zlet (znw h38 15 0 3) fun h40 =>
  znn (some (15, zct h38 15)) fun p42 i43 =>
  zif ((ztg p42 == 9) = true) <|
  zif (zi h40 p42 i43 1 = 0 ∧ zln h40 p42 i43 = 0) <|
  zlet (zsi h40 p42 i43 1 1) fun h47 =>
  zlet (zsr h47 p34 i35 1 (some (15, zct h38 15))) fun h49 =>
  zlet (znw h49 16 0 3) fun h51 =>
  znn (some (16, zct h49 16)) fun p53 i54 =>
  zif ((ztg p53 == 9) = true) <|
  zif (zi h51 p53 i54 1 = 0 ∧ zln h51 p53 i54 = 0) <|
  zlet (zsi h51 p53 i54 1 1) fun h58 =>
  zlet (zsr h58 p34 i35 2 (some (16, zct h49 16))) fun h60 =>
  zlet (znw h60 17 0 3) fun h62 =>
  znn (some (17, zct h60 17)) fun p64 i65 =>
  zif ((ztg p64 == 9) = true) <|
  zif (zi h62 p64 i65 1 = 0 ∧ zln h62 p64 i65 = 0) <|
  zlet (zsi h62 p64 i65 1 1) fun h69 =>
  zlet (zsr h69 p34 i35 3 (some (17, zct h60 17))) fun h71 =>
  zlet (znw h71 18 0 3) fun h73 =>
  znn (some (18, zct h71 18)) fun p75 i76 =>
  zif ((ztg p75 == 9) = true) <|
  zif (zi h73 p75 i76 1 = 0 ∧ zln h73 p75 i76 = 0) <|
  zlet (zsi h73 p75 i76 1 1) fun h80 =>
  zlet (zsr h80 p34 i35 4 (some (18, zct h71 18))) fun h82 =>
  zlet (znw h82 19 0 3) fun h84 =>
  znn (some (19, zct h82 19)) fun p86 i87 =>
  zif ((ztg p86 == 9) = true) <|
  zif (zi h84 p86 i87 1 = 0 ∧ zln h84 p86 i87 = 0) <|
  zlet (zsi h84 p86 i87 1 1) fun h91 =>
  zlet (zsr h91 p34 i35 5 (some (19, zct h82 19))) fun h93 =>
  if (4 : Int32) < 0 ∨ 100000 < (4 : Int32).toNatClampNeg then none else
  zlet (znw h93 33 (4 : Int32).toNatClampNeg (4 : Int32).toNatClampNeg) fun h95 =>
  zlet (zsr h95 p34 i35 6 (some (33, zct h93 33))) fun h97 =>
  if (8 : Int32) < 0 ∨ 100000 < (8 : Int32).toNatClampNeg then none else
  zlet (znw h97 34 (8 : Int32).toNatClampNeg (8 : Int32).toNatClampNeg) fun h99 =>
  zlet (zsr h99 p34 i35 7 (some (34, zct h97 34))) fun h101 =>
  if (3 : Int32) < 0 ∨ 100000 < (3 : Int32).toNatClampNeg then none else
  zlet (znw h101 35 (3 : Int32).toNatClampNeg (3 : Int32).toNatClampNeg) fun h103 =>
  zlet (zsr h103 p34 i35 8 (some (35, zct h101 35))) fun h105 =>
  if (3 : Int32) < 0 ∨ 100000 < (3 : Int32).toNatClampNeg then none else
  zlet (znw h105 36 (3 : Int32).toNatClampNeg (3 : Int32).toNatClampNeg) fun h107 =>
  zlet (zsr h107 p34 i35 9 (some (36, zct h105 36))) fun h109 =>
  if (200 : Int32) < 0 ∨ 100000 < (200 : Int32).toNatClampNeg then none else
  zlet (znw h109 37 (200 : Int32).toNatClampNeg (200 : Int32).toNatClampNeg) fun h111 =>
  zlet (zsr h111 p34 i35 10 (some (37, zct h109 37))) fun h113 =>
  zlet (zsi h113 p34 i35 12 (0 : Int32)) fun h115 =>
  zm39_57 (zm39_69) zN0 x0 (0 : Int32) h115
theorem zmS39 {x0 : zq} {h : zH} {r : Unit ⊕ Nat} {h' : zH} (H : zm39 x0 h = some (r, h')) : zAt 39 0 [some (zrv x0), none] [] h (zoU r) h' := by
  unfold zm39 at H
  refine zA_aldn rfl rfl rfl ?_
  obtain ⟨p21, i22, e23, H⟩ := znn_e H
  refine zA_l0 rfl rfl rfl e23 ?_
  refine zA_aldn rfl rfl rfl ?_
  obtain ⟨h25, e26, H⟩ := zlet_e H
  refine zA_new (n := 3) rfl rfl (fun _ _ _ _ => rfl) e26 ?_
  refine zA_dup rfl rfl (zcat_rv _) ?_
  obtain ⟨p27, i28, e29, H⟩ := znn_e H
  obtain ⟨c30, H⟩ := zif_e H
  obtain ⟨c31, H⟩ := zif_e H
  obtain ⟨h32, e33, H⟩ := zlet_e H
  refine zA_l1 rfl rfl rfl e29 c30 c31 e33 ?_
  obtain ⟨p34, i35, e36, c37, H⟩ := zob_e H
  obtain ⟨h38, e39, H⟩ := zlet_e H
  refine zA_pf3 rfl rfl e36 c37 e39 ?_
  refine zA_aldn rfl rfl rfl ?_
  obtain ⟨h40, e41, H⟩ := zlet_e H
  refine zA_new (n := 3) rfl rfl (fun _ _ _ _ => rfl) e41 ?_
  refine zA_dup rfl rfl (zcat_rv _) ?_
  obtain ⟨p42, i43, e44, H⟩ := znn_e H
  obtain ⟨c45, H⟩ := zif_e H
  obtain ⟨c46, H⟩ := zif_e H
  obtain ⟨h47, e48, H⟩ := zlet_e H
  refine zA_l1 rfl rfl rfl e44 c45 c46 e48 ?_
  obtain ⟨h49, e50, H⟩ := zlet_e H
  refine zA_pf3 rfl rfl e36 c37 e50 ?_
  refine zA_aldn rfl rfl rfl ?_
  obtain ⟨h51, e52, H⟩ := zlet_e H
  refine zA_new (n := 3) rfl rfl (fun _ _ _ _ => rfl) e52 ?_
  refine zA_dup rfl rfl (zcat_rv _) ?_
  obtain ⟨p53, i54, e55, H⟩ := znn_e H
  obtain ⟨c56, H⟩ := zif_e H
  obtain ⟨c57, H⟩ := zif_e H
  obtain ⟨h58, e59, H⟩ := zlet_e H
  refine zA_l1 rfl rfl rfl e55 c56 c57 e59 ?_
  obtain ⟨h60, e61, H⟩ := zlet_e H
  refine zA_pf3 rfl rfl e36 c37 e61 ?_
  refine zA_aldn rfl rfl rfl ?_
  obtain ⟨h62, e63, H⟩ := zlet_e H
  refine zA_new (n := 3) rfl rfl (fun _ _ _ _ => rfl) e63 ?_
  refine zA_dup rfl rfl (zcat_rv _) ?_
  obtain ⟨p64, i65, e66, H⟩ := znn_e H
  obtain ⟨c67, H⟩ := zif_e H
  obtain ⟨c68, H⟩ := zif_e H
  obtain ⟨h69, e70, H⟩ := zlet_e H
  refine zA_l1 rfl rfl rfl e66 c67 c68 e70 ?_
  obtain ⟨h71, e72, H⟩ := zlet_e H
  refine zA_pf3 rfl rfl e36 c37 e72 ?_
  refine zA_aldn rfl rfl rfl ?_
  obtain ⟨h73, e74, H⟩ := zlet_e H
  refine zA_new (n := 3) rfl rfl (fun _ _ _ _ => rfl) e74 ?_
  refine zA_dup rfl rfl (zcat_rv _) ?_
  obtain ⟨p75, i76, e77, H⟩ := znn_e H
  obtain ⟨c78, H⟩ := zif_e H
  obtain ⟨c79, H⟩ := zif_e H
  obtain ⟨h80, e81, H⟩ := zlet_e H
  refine zA_l1 rfl rfl rfl e77 c78 c79 e81 ?_
  obtain ⟨h82, e83, H⟩ := zlet_e H
  refine zA_pf3 rfl rfl e36 c37 e83 ?_
  refine zA_aldn rfl rfl rfl ?_
  obtain ⟨h84, e85, H⟩ := zlet_e H
  refine zA_new (n := 3) rfl rfl (fun _ _ _ _ => rfl) e85 ?_
  refine zA_dup rfl rfl (zcat_rv _) ?_
  obtain ⟨p86, i87, e88, H⟩ := znn_e H
  obtain ⟨c89, H⟩ := zif_e H
  obtain ⟨c90, H⟩ := zif_e H
  obtain ⟨h91, e92, H⟩ := zlet_e H
  refine zA_l1 rfl rfl rfl e88 c89 c90 e92 ?_
  obtain ⟨h93, e94, H⟩ := zlet_e H
  refine zA_pf3 rfl rfl e36 c37 e94 ?_
  refine zA_aldn rfl rfl rfl ?_
  refine zA_push rfl rfl zkk9 ?_
  rcases zite_e H with ⟨_, H⟩ | ⟨ch95, H⟩
  · cases H
  obtain ⟨h95, e96, H⟩ := zlet_e H
  refine zA_newA rfl rfl (fun _ _ _ _ _ => rfl) ch95 e96 ?_
  obtain ⟨h97, e98, H⟩ := zlet_e H
  refine zA_pf3 rfl rfl e36 c37 e98 ?_
  refine zA_aldn rfl rfl rfl ?_
  refine zA_push rfl rfl zkk0 ?_
  rcases zite_e H with ⟨_, H⟩ | ⟨ch99, H⟩
  · cases H
  obtain ⟨h99, e100, H⟩ := zlet_e H
  refine zA_newA rfl rfl (fun _ _ _ _ _ => rfl) ch99 e100 ?_
  obtain ⟨h101, e102, H⟩ := zlet_e H
  refine zA_pf3 rfl rfl e36 c37 e102 ?_
  refine zA_aldn rfl rfl rfl ?_
  refine zA_push rfl rfl zkk3 ?_
  rcases zite_e H with ⟨_, H⟩ | ⟨ch103, H⟩
  · cases H
  obtain ⟨h103, e104, H⟩ := zlet_e H
  refine zA_newA rfl rfl (fun _ _ _ _ _ => rfl) ch103 e104 ?_
  obtain ⟨h105, e106, H⟩ := zlet_e H
  refine zA_pf3 rfl rfl e36 c37 e106 ?_
  refine zA_aldn rfl rfl rfl ?_
  refine zA_push rfl rfl zkk3 ?_
  rcases zite_e H with ⟨_, H⟩ | ⟨ch107, H⟩
  · cases H
  obtain ⟨h107, e108, H⟩ := zlet_e H
  refine zA_newA rfl rfl (fun _ _ _ _ _ => rfl) ch107 e108 ?_
  obtain ⟨h109, e110, H⟩ := zlet_e H
  refine zA_pf3 rfl rfl e36 c37 e110 ?_
  refine zA_aldn rfl rfl rfl ?_
  refine zA_push rfl rfl zkk4 ?_
  rcases zite_e H with ⟨_, H⟩ | ⟨ch111, H⟩
  · cases H
  obtain ⟨h111, e112, H⟩ := zlet_e H
  refine zA_newA rfl rfl (fun _ _ _ _ _ => rfl) ch111 e112 ?_
  obtain ⟨h113, e114, H⟩ := zlet_e H
  refine zA_pf3 rfl rfl e36 c37 e114 ?_
  refine zA_aldn rfl rfl rfl ?_
  refine zA_push rfl rfl zkk7 ?_
  obtain ⟨h115, e116, H⟩ := zlet_e H
  refine zA_pf0 rfl rfl e36 c37 e116 ?_
  refine zA_push rfl rfl zkk7 ?_
  refine zA_istn2 rfl rfl rfl (zset1 (L' := [some (zrv x0), some (zI (0 : Int32))]) rfl rfl (zpcV rfl (zcat_rv _))) ?_
  exact zA_tr (L := [some (zrv x0), some (zI (0 : Int32))]) rfl rfl (zmS39_57 (zmS39_69) zN0 _ _ _ _ _ H)
theorem zmE39 (x0 : zq) : zpad (zPr.2.1 39).1 (zil [zrv x0]) = [some (zrv x0), none] := by
  simp only [zil_A, zil_I, zil_F, zil_D, zil_N]
  rfl
-- 241: ReleaseHouseLaw.cell([II)I
def zm241 (x0 : zq) (x1 : Int32) (h : zH) : zRs Int32 :=
  zal x0 fun p21 i22 =>
  if (nI (zln h p21 i22)) ≤ x1 then
    some (.inl (((7919 : Int32) * (x1 + (3 : Int32))) * (x1 + (11 : Int32))), h)
  else
    zri x0 x1 h fun v33 =>
    some (.inl v33, h)
theorem zmS241 {x0 : zq} {x1 : Int32} {h : zH} {r : Int32 ⊕ Nat} {h' : zH} (H : zm241 x0 x1 h = some (r, h')) : zAt 241 0 [some (zrv x0), some (zI x1)] [] h (zoI r) h' := by
  unfold zm241 at H
  refine zA_ldn rfl rfl rfl ?_
  refine zA_aldn rfl rfl rfl ?_
  obtain ⟨p21, i22, e23, c24, H⟩ := zal_e H
  refine zA_len rfl rfl e23 c24 ?_
  rcases zite_e H with ⟨c25, H⟩ | ⟨c25, H⟩
  · refine zA_brT (c := (nI (zln h p21 i22)) ≤ x1) rfl rfl rfl c25 ?_
    refine zA_tr (L := [none, some (zI x1)]) rfl rfl ?_
    refine zA_push rfl rfl zkk10 ?_
    refine zA_ldn rfl rfl rfl ?_
    refine zA_push rfl rfl zkk3 ?_
    refine zA_st (st' := [zI (x1 + (3 : Int32)), zI (7919 : Int32)]) rfl rfl rfl rfl ?_
    refine zA_st (st' := [zI ((7919 : Int32) * (x1 + (3 : Int32)))]) rfl rfl rfl rfl ?_
    refine zA_ldn rfl rfl rfl ?_
    refine zA_push rfl rfl zkk11 ?_
    refine zA_st (st' := [zI (x1 + (11 : Int32)), zI ((7919 : Int32) * (x1 + (3 : Int32)))]) rfl rfl rfl rfl ?_
    refine zA_st (st' := [zI (((7919 : Int32) * (x1 + (3 : Int32))) * (x1 + (11 : Int32)))]) rfl rfl rfl rfl ?_
    refine zA_tr (L := [none, none]) rfl rfl ?_
    cases H
    exact zA_ret rfl rfl
  · refine zA_brF (c := (nI (zln h p21 i22)) ≤ x1) rfl rfl rfl c25 ?_
    refine zA_aldn rfl rfl rfl ?_
    refine zA_ldn rfl rfl rfl ?_
    obtain ⟨p26, i27, j28, v33, e29, c30, c31, e32, e34, H⟩ := zri_e H
    refine zA_ial rfl rfl e29 c30 c31 e32 e34 ?_
    refine zA_go rfl rfl ?_
    refine zA_tr (L := [none, none]) rfl rfl ?_
    cases H
    exact zA_ret rfl rfl
theorem zmE241 (x0 : zq) (x1 : Int32) : zpad (zPr.2.1 241).1 (zil [zrv x0, zI x1]) = [some (zrv x0), some (zI x1)] := by
  simp only [zil_A, zil_I, zil_F, zil_D, zil_N]
  rfl
-- 242: ReleaseHouseLaw.low(II)I
def zm242 (x0 : Int32) (x1 : Int32) (h : zH) : zRs Int32 :=
  zif (x1 ≠ 0) <|
  some (.inl ((x0 &&& (2147483647 : Int32)) - (x0 &&& (2147483647 : Int32)) / x1 * x1), h)
theorem zmS242 {x0 : Int32} {x1 : Int32} {h : zH} {r : Int32 ⊕ Nat} {h' : zH} (H : zm242 x0 x1 h = some (r, h')) : zAt 242 0 [some (zI x0), some (zI x1)] [] h (zoI r) h' := by
  unfold zm242 at H
  refine zA_ldn rfl rfl rfl ?_
  refine zA_push rfl rfl zkk12 ?_
  refine zA_st (st' := [zI (x0 &&& (2147483647 : Int32))]) rfl rfl rfl rfl ?_
  refine zA_ldn rfl rfl rfl ?_
  obtain ⟨c21, H⟩ := zif_e H
  refine zA_rem rfl rfl c21 ?_
  cases H
  exact zA_ret rfl rfl
theorem zmE242 (x0 : Int32) (x1 : Int32) : zpad (zPr.2.1 242).1 (zil [zI x0, zI x1]) = [some (zI x0), some (zI x1)] := by
  simp only [zil_A, zil_I, zil_F, zil_D, zil_N]
  rfl
-- 7: ReleaseHouse$Program.<init>()V
def zm7 (x0 : zq) (h : zH) : zRs Unit :=
  znn x0 fun p21 i22 =>
  if (10 : Int32) < 0 ∨ 100000 < (10 : Int32).toNatClampNeg then none else
  zlet (znw h 22 (10 : Int32).toNatClampNeg (10 : Int32).toNatClampNeg) fun h25 =>
  zob 4 x0 fun p27 i28 =>
  zlet (zsr h25 p27 i28 0 (some (22, zct h 22))) fun h31 =>
  if (10 : Int32) < 0 ∨ 100000 < (10 : Int32).toNatClampNeg then none else
  zlet (znw h31 23 (10 : Int32).toNatClampNeg (10 : Int32).toNatClampNeg) fun h33 =>
  zlet (zsr h33 p27 i28 1 (some (23, zct h31 23))) fun h35 =>
  if (10 : Int32) < 0 ∨ 100000 < (10 : Int32).toNatClampNeg then none else
  zlet (znw h35 24 (10 : Int32).toNatClampNeg (10 : Int32).toNatClampNeg) fun h37 =>
  zlet (zsr h37 p27 i28 2 (some (24, zct h35 24))) fun h39 =>
  some (.inl (), h39)
theorem zmS7 {x0 : zq} {h : zH} {r : Unit ⊕ Nat} {h' : zH} (H : zm7 x0 h = some (r, h')) : zAt 7 0 [some (zrv x0)] [] h (zoU r) h' := by
  unfold zm7 at H
  refine zA_aldn rfl rfl rfl ?_
  obtain ⟨p21, i22, e23, H⟩ := znn_e H
  refine zA_l0 rfl rfl rfl e23 ?_
  refine zA_aldn rfl rfl rfl ?_
  refine zA_push rfl rfl zkk13 ?_
  rcases zite_e H with ⟨_, H⟩ | ⟨ch25, H⟩
  · cases H
  obtain ⟨h25, e26, H⟩ := zlet_e H
  refine zA_newA rfl rfl (fun _ _ _ _ _ => rfl) ch25 e26 ?_
  obtain ⟨p27, i28, e29, c30, H⟩ := zob_e H
  obtain ⟨h31, e32, H⟩ := zlet_e H
  refine zA_pf3 rfl rfl e29 c30 e32 ?_
  refine zA_aldn rfl rfl rfl ?_
  refine zA_push rfl rfl zkk13 ?_
  rcases zite_e H with ⟨_, H⟩ | ⟨ch33, H⟩
  · cases H
  obtain ⟨h33, e34, H⟩ := zlet_e H
  refine zA_newA rfl rfl (fun _ _ _ _ _ => rfl) ch33 e34 ?_
  obtain ⟨h35, e36, H⟩ := zlet_e H
  refine zA_pf3 rfl rfl e29 c30 e36 ?_
  refine zA_aldn rfl rfl rfl ?_
  refine zA_push rfl rfl zkk13 ?_
  rcases zite_e H with ⟨_, H⟩ | ⟨ch37, H⟩
  · cases H
  obtain ⟨h37, e38, H⟩ := zlet_e H
  refine zA_newA rfl rfl (fun _ _ _ _ _ => rfl) ch37 e38 ?_
  obtain ⟨h39, e40, H⟩ := zlet_e H
  refine zA_pf3 rfl rfl e29 c30 e40 ?_
  cases H
  exact zA_ret rfl rfl
theorem zmE7 (x0 : zq) : zpad (zPr.2.1 7).1 (zil [zrv x0]) = [some (zrv x0)] := by
  simp only [zil_A, zil_I, zil_F, zil_D, zil_N]
  rfl
-- 49: ReleaseHouse.program()I
def zm49 (x0 : zq) (h : zH) : zRs Int32 :=
  zob 11 x0 fun p21 i22 =>
  zlz (zr h p21 i22 1) h fun v30 =>
  if v30 < (6 : Int32) then
    zlet (znw h 4 0 5) fun h33 =>
    zob 4 (some (4, zct h 4)) fun p35 i36 =>
    zb2 (zm7 (some (4, zct h 4)) h33) fun _ h39 =>
    znn (zr h p21 i22 1) fun p40 i41 =>
    znn (some (4, zct h 4)) fun p47 i48 =>
    zif ((ztg p40 == 9 && ztg p47 == 0 && (zkc p47 == zel p40 && zelB h39 p40 i41)) = true) <|
    zif (zi h39 p40 i41 1 = 1 ∧ zln h39 p40 i41 < 33) <|
    zlet (zladd h39 p40 i41 p47 i48) fun h45 =>
    zlz (zr h45 p21 i22 1) h45 fun v55 =>
    some (.inl (v55 - (1 : Int32)), h45)
  else
    some (.inr 1, zro h 1 6)
theorem zmS49 {x0 : zq} {h : zH} {r : Int32 ⊕ Nat} {h' : zH} (H : zm49 x0 h = some (r, h')) : zAt 49 0 [some (zrv x0)] [] h (zoI r) h' := by
  unfold zm49 at H
  refine zA_aldn rfl rfl rfl ?_
  obtain ⟨p21, i22, e23, c24, H⟩ := zob_e H
  refine zA_gf3 rfl rfl e23 c24 ?_
  obtain ⟨p25, i26, v30, e27, c28, c29, e31, H⟩ := zlz_e H
  refine zA_l2 rfl rfl rfl e27 c28 c29 e31 ?_
  refine zA_push rfl rfl zkk14 ?_
  rcases zite_e H with ⟨c32, H⟩ | ⟨c32, H⟩
  · refine zA_brT (c := v30 < (6 : Int32)) rfl rfl rfl c32 ?_
    refine zA_aldn rfl rfl rfl ?_
    refine zA_gf3 rfl rfl e23 c24 ?_
    obtain ⟨h33, e34, H⟩ := zlet_e H
    refine zA_new (n := 5) rfl rfl (fun _ _ _ _ => rfl) e34 ?_
    refine zA_dup rfl rfl (zcat_rv _) ?_
    obtain ⟨p35, i36, e37, c38, H⟩ := zob_e H
    obtain ⟨u57, h39, C, H⟩ := zb2_e H
    refine zA_callU (as := [zrv (some (4, zct h 4))]) (st' := [zrv (some (4, zct h 4)), zrv (zr h p21 i22 1)]) rfl rfl rfl (zrcv_Q e37 c38) rfl (zmE7 _) rfl (zmS7 C) ?_
    obtain ⟨p40, i41, e42, H⟩ := znn_e H
    obtain ⟨p47, i48, e49, H⟩ := znn_e H
    obtain ⟨c43, H⟩ := zif_e H
    obtain ⟨c44, H⟩ := zif_e H
    obtain ⟨h45, e46, H⟩ := zlet_e H
    refine zA_l4 rfl rfl rfl e42 e49 c43 c44 e46 ?_
    refine zA_pop rfl rfl rfl ?_
    refine zA_aldn rfl rfl rfl ?_
    refine zA_gf3 rfl rfl e23 c24 ?_
    obtain ⟨p50, i51, v55, e52, c53, c54, e56, H⟩ := zlz_e H
    refine zA_l2 rfl rfl rfl e52 c53 c54 e56 ?_
    refine zA_push rfl rfl zkk5 ?_
    refine zA_st (st' := [zI (v55 - (1 : Int32))]) rfl rfl rfl rfl ?_
    cases H
    exact zA_ret rfl rfl
  · refine zA_brF (c := v30 < (6 : Int32)) rfl rfl rfl c32 ?_
    cases H
    exact zA_thr rfl rfl
theorem zmE49 (x0 : zq) : zpad (zPr.2.1 49).1 (zil [zrv x0]) = [some (zrv x0)] := by
  simp only [zil_A, zil_I, zil_F, zil_D, zil_N]
  rfl
-- 130: ReleaseHouse.checkNumber(II)V
def zm130 (x0 : Int32) (x1 : Int32) (h : zH) : zRs Unit :=
  if x0 < 0 then
    some (.inr 2, zro h 1 6)
  else
    if x0 < x1 then
      some (.inl (), h)
    else
      some (.inr 2, zro h 1 6)
theorem zmS130 {x0 : Int32} {x1 : Int32} {h : zH} {r : Unit ⊕ Nat} {h' : zH} (H : zm130 x0 x1 h = some (r, h')) : zAt 130 0 [some (zI x0), some (zI x1)] [] h (zoU r) h' := by
  unfold zm130 at H
  refine zA_ldn rfl rfl rfl ?_
  rcases zite_e H with ⟨c21, H⟩ | ⟨c21, H⟩
  · refine zA_brT (c := x0 < 0) rfl rfl rfl c21 ?_
    refine zA_tr (L := [none, none]) rfl rfl ?_
    cases H
    exact zA_thr rfl rfl
  · refine zA_brF (c := x0 < 0) rfl rfl rfl c21 ?_
    refine zA_ldn rfl rfl rfl ?_
    refine zA_ldn rfl rfl rfl ?_
    rcases zite_e H with ⟨c22, H⟩ | ⟨c22, H⟩
    · refine zA_brT (c := x0 < x1) rfl rfl rfl c22 ?_
      refine zA_tr (L := [none, none]) rfl rfl ?_
      cases H
      exact zA_ret rfl rfl
    · refine zA_brF (c := x0 < x1) rfl rfl rfl c22 ?_
      refine zA_tr (L := [none, none]) rfl rfl ?_
      cases H
      exact zA_thr rfl rfl
theorem zmE130 (x0 : Int32) (x1 : Int32) : zpad (zPr.2.1 130).1 (zil [zI x0, zI x1]) = [some (zI x0), some (zI x1)] := by
  simp only [zil_A, zil_I, zil_F, zil_D, zil_N]
  rfl
-- 131: ReleaseHouse.checkRange(III)V
def zm131 (x0 : Int32) (x1 : Int32) (x2 : Int32) (h : zH) : zRs Unit :=
  if x0 < x1 then
    some (.inr 0, zro h 1 6)
  else
    if x0 ≤ x2 then
      some (.inl (), h)
    else
      some (.inr 0, zro h 1 6)
theorem zmS131 {x0 : Int32} {x1 : Int32} {x2 : Int32} {h : zH} {r : Unit ⊕ Nat} {h' : zH} (H : zm131 x0 x1 x2 h = some (r, h')) : zAt 131 0 [some (zI x0), some (zI x1), some (zI x2)] [] h (zoU r) h' := by
  unfold zm131 at H
  refine zA_ldn rfl rfl rfl ?_
  refine zA_ldn rfl rfl rfl ?_
  rcases zite_e H with ⟨c21, H⟩ | ⟨c21, H⟩
  · refine zA_brT (c := x0 < x1) rfl rfl rfl c21 ?_
    refine zA_tr (L := [none, none, none]) rfl rfl ?_
    cases H
    exact zA_thr rfl rfl
  · refine zA_brF (c := x0 < x1) rfl rfl rfl c21 ?_
    refine zA_ldn rfl rfl rfl ?_
    refine zA_ldn rfl rfl rfl ?_
    rcases zite_e H with ⟨c22, H⟩ | ⟨c22, H⟩
    · refine zA_brT (c := x0 ≤ x2) rfl rfl rfl c22 ?_
      refine zA_tr (L := [none, none, none]) rfl rfl ?_
      cases H
      exact zA_ret rfl rfl
    · refine zA_brF (c := x0 ≤ x2) rfl rfl rfl c22 ?_
      refine zA_tr (L := [none, none, none]) rfl rfl ?_
      cases H
      exact zA_thr rfl rfl
theorem zmE131 (x0 : Int32) (x1 : Int32) (x2 : Int32) : zpad (zPr.2.1 131).1 (zil [zI x0, zI x1, zI x2]) = [some (zI x0), some (zI x1), some (zI x2)] := by
  simp only [zil_A, zil_I, zil_F, zil_D, zil_N]
  rfl
-- 51: ReleaseHouse.checkStep(III)V
def zm51 (x0 : Int32) (x1 : Int32) (x2 : Int32) (h : zH) : zRs Unit :=
  if x0.toInt < 0 ∨ 6 < x0.toInt then
    some (.inr 0, zro h 1 6)
  else if x0 = (0 : Int32) then
    zb (zm131 x1 (0 : Int32) (2 : Int32) h) fun _ h38 =>
    zb (zm131 x2 (1 : Int32) (100 : Int32) h38) fun _ h39 =>
    some (.inl (), h39)
  else if x0 = (1 : Int32) then
    zb (zm131 x1 (0 : Int32) (1000 : Int32) h) fun _ h35 =>
    some (.inl (), h35)
  else if x0 = (2 : Int32) then
    zb (zm131 x1 (0 : Int32) (2 : Int32) h) fun _ h32 =>
    some (.inl (), h32)
  else if x0 = (3 : Int32) then
    zb (zm131 x1 (0 : Int32) (5 : Int32) h) fun _ h29 =>
    some (.inl (), h29)
  else if x0 = (4 : Int32) then
    zb (zm131 x1 (0 : Int32) (2 : Int32) h) fun _ h26 =>
    some (.inl (), h26)
  else if x0 = (5 : Int32) then
    some (.inl (), h)
  else if x0 = (6 : Int32) then
    zb (zm131 x1 (0 : Int32) (2 : Int32) h) fun _ h22 =>
    some (.inl (), h22)
  else none
theorem zmS51 {x0 : Int32} {x1 : Int32} {x2 : Int32} {h : zH} {r : Unit ⊕ Nat} {h' : zH} (H : zm51 x0 x1 x2 h = some (r, h')) : zAt 51 0 [some (zI x0), some (zI x1), some (zI x2)] [] h (zoU r) h' := by
  unfold zm51 at H
  refine zA_ldn rfl rfl rfl ?_
  rcases zite_e H with ⟨c21, H⟩ | ⟨c21, H⟩
  · refine zA_swD rfl rfl c21 ?_
    refine zA_tr (L := [none, none, none]) rfl rfl ?_
    cases H
    exact zA_thr rfl rfl
  · rcases zite_e H with ⟨c42, H⟩ | ⟨c42, H⟩
    · refine zA_swT (j := 0) (t := 2) rfl rfl c21 (by rw [c42]; decide) rfl ?_
      refine zA_tr (L := [none, some (zI x1), some (zI x2)]) rfl rfl ?_
      refine zA_ldn rfl rfl rfl ?_
      refine zA_push rfl rfl zkk7 ?_
      refine zA_push rfl rfl zkk15 ?_
      rcases zb_e H with ⟨u41, h38, C, H⟩ | ⟨E, h38, C, H⟩
      · refine zA_callU (as := [zI x1, zI (0 : Int32), zI (2 : Int32)]) (st' := []) rfl rfl rfl rfl rfl (zmE131 _ _ _) rfl (zmS131 C) ?_
        refine zA_ldn rfl rfl rfl ?_
        refine zA_push rfl rfl zkk5 ?_
        refine zA_push rfl rfl zkk18 ?_
        rcases zb_e H with ⟨u40, h39, C, H⟩ | ⟨E, h39, C, H⟩
        · refine zA_callU (as := [zI x2, zI (1 : Int32), zI (100 : Int32)]) (st' := []) rfl rfl rfl rfl rfl (zmE131 _ _ _) rfl (zmS131 C) ?_
          refine zA_go rfl rfl ?_
          refine zA_tr (L := [none, none, none]) rfl rfl ?_
          cases H
          exact zA_ret rfl rfl
        · cases H
          exact zA_callX (as := [zI x2, zI (1 : Int32), zI (100 : Int32)]) (st' := []) rfl rfl rfl rfl (zmE131 _ _ _) rfl rfl rfl (zmS131 C)
      · cases H
        exact zA_callX (as := [zI x1, zI (0 : Int32), zI (2 : Int32)]) (st' := []) rfl rfl rfl rfl (zmE131 _ _ _) rfl rfl rfl (zmS131 C)
    · rcases zite_e H with ⟨c37, H⟩ | ⟨c37, H⟩
      · refine zA_swT (j := 1) (t := 16) rfl rfl c21 (by rw [c37]; decide) rfl ?_
        refine zA_tr (L := [none, some (zI x1), none]) rfl rfl ?_
        refine zA_ldn rfl rfl rfl ?_
        refine zA_push rfl rfl zkk7 ?_
        refine zA_push rfl rfl zkk17 ?_
        rcases zb_e H with ⟨u36, h35, C, H⟩ | ⟨E, h35, C, H⟩
        · refine zA_callU (as := [zI x1, zI (0 : Int32), zI (1000 : Int32)]) (st' := []) rfl rfl rfl rfl rfl (zmE131 _ _ _) rfl (zmS131 C) ?_
          refine zA_go rfl rfl ?_
          refine zA_tr (L := [none, none, none]) rfl rfl ?_
          cases H
          exact zA_ret rfl rfl
        · cases H
          exact zA_callX (as := [zI x1, zI (0 : Int32), zI (1000 : Int32)]) (st' := []) rfl rfl rfl rfl (zmE131 _ _ _) rfl rfl rfl (zmS131 C)
      · rcases zite_e H with ⟨c34, H⟩ | ⟨c34, H⟩
        · refine zA_swT (j := 2) (t := 11) rfl rfl c21 (by rw [c34]; decide) rfl ?_
          refine zA_tr (L := [none, some (zI x1), none]) rfl rfl ?_
          refine zA_ldn rfl rfl rfl ?_
          refine zA_push rfl rfl zkk7 ?_
          refine zA_push rfl rfl zkk15 ?_
          rcases zb_e H with ⟨u33, h32, C, H⟩ | ⟨E, h32, C, H⟩
          · refine zA_callU (as := [zI x1, zI (0 : Int32), zI (2 : Int32)]) (st' := []) rfl rfl rfl rfl rfl (zmE131 _ _ _) rfl (zmS131 C) ?_
            refine zA_go rfl rfl ?_
            refine zA_tr (L := [none, none, none]) rfl rfl ?_
            cases H
            exact zA_ret rfl rfl
          · cases H
            exact zA_callX (as := [zI x1, zI (0 : Int32), zI (2 : Int32)]) (st' := []) rfl rfl rfl rfl (zmE131 _ _ _) rfl rfl rfl (zmS131 C)
        · rcases zite_e H with ⟨c31, H⟩ | ⟨c31, H⟩
          · refine zA_swT (j := 3) (t := 21) rfl rfl c21 (by rw [c31]; decide) rfl ?_
            refine zA_tr (L := [none, some (zI x1), none]) rfl rfl ?_
            refine zA_ldn rfl rfl rfl ?_
            refine zA_push rfl rfl zkk7 ?_
            refine zA_push rfl rfl zkk16 ?_
            rcases zb_e H with ⟨u30, h29, C, H⟩ | ⟨E, h29, C, H⟩
            · refine zA_callU (as := [zI x1, zI (0 : Int32), zI (5 : Int32)]) (st' := []) rfl rfl rfl rfl rfl (zmE131 _ _ _) rfl (zmS131 C) ?_
              refine zA_go rfl rfl ?_
              refine zA_tr (L := [none, none, none]) rfl rfl ?_
              cases H
              exact zA_ret rfl rfl
            · cases H
              exact zA_callX (as := [zI x1, zI (0 : Int32), zI (5 : Int32)]) (st' := []) rfl rfl rfl rfl (zmE131 _ _ _) rfl rfl rfl (zmS131 C)
          · rcases zite_e H with ⟨c28, H⟩ | ⟨c28, H⟩
            · refine zA_swT (j := 4) (t := 11) rfl rfl c21 (by rw [c28]; decide) rfl ?_
              refine zA_tr (L := [none, some (zI x1), none]) rfl rfl ?_
              refine zA_ldn rfl rfl rfl ?_
              refine zA_push rfl rfl zkk7 ?_
              refine zA_push rfl rfl zkk15 ?_
              rcases zb_e H with ⟨u27, h26, C, H⟩ | ⟨E, h26, C, H⟩
              · refine zA_callU (as := [zI x1, zI (0 : Int32), zI (2 : Int32)]) (st' := []) rfl rfl rfl rfl rfl (zmE131 _ _ _) rfl (zmS131 C) ?_
                refine zA_go rfl rfl ?_
                refine zA_tr (L := [none, none, none]) rfl rfl ?_
                cases H
                exact zA_ret rfl rfl
              · cases H
                exact zA_callX (as := [zI x1, zI (0 : Int32), zI (2 : Int32)]) (st' := []) rfl rfl rfl rfl (zmE131 _ _ _) rfl rfl rfl (zmS131 C)
            · rcases zite_e H with ⟨c25, H⟩ | ⟨c25, H⟩
              · refine zA_swT (j := 5) (t := 26) rfl rfl c21 (by rw [c25]; decide) rfl ?_
                refine zA_tr (L := [none, none, none]) rfl rfl ?_
                refine zA_go rfl rfl ?_
                cases H
                exact zA_ret rfl rfl
              · rcases zite_e H with ⟨c24, H⟩ | ⟨c24, H⟩
                · refine zA_swT (j := 6) (t := 11) rfl rfl c21 (by rw [c24]; decide) rfl ?_
                  refine zA_tr (L := [none, some (zI x1), none]) rfl rfl ?_
                  refine zA_ldn rfl rfl rfl ?_
                  refine zA_push rfl rfl zkk7 ?_
                  refine zA_push rfl rfl zkk15 ?_
                  rcases zb_e H with ⟨u23, h22, C, H⟩ | ⟨E, h22, C, H⟩
                  · refine zA_callU (as := [zI x1, zI (0 : Int32), zI (2 : Int32)]) (st' := []) rfl rfl rfl rfl rfl (zmE131 _ _ _) rfl (zmS131 C) ?_
                    refine zA_go rfl rfl ?_
                    refine zA_tr (L := [none, none, none]) rfl rfl ?_
                    cases H
                    exact zA_ret rfl rfl
                  · cases H
                    exact zA_callX (as := [zI x1, zI (0 : Int32), zI (2 : Int32)]) (st' := []) rfl rfl rfl rfl (zmE131 _ _ _) rfl rfl rfl (zmS131 C)
                · cases H
theorem zmE51 (x0 : Int32) (x1 : Int32) (x2 : Int32) : zpad (zPr.2.1 51).1 (zil [zI x0, zI x1, zI x2]) = [some (zI x0), some (zI x1), some (zI x2)] := by
  simp only [zil_A, zil_I, zil_F, zil_D, zil_N]
  rfl
-- 8: ReleaseHouse$Program.append(III)V
def zm8 (x0 : zq) (x1 : Int32) (x2 : Int32) (x3 : Int32) (h : zH) : zRs Unit :=
  zob 4 x0 fun p21 i22 =>
  zar 1 (zr h p21 i22 0) (zi h p21 i22 3) h fun p25 i26 j27 =>
  zlet (zsi h p25 i26 j27 x1) fun h32 =>
  zar 1 (zr h32 p21 i22 1) (zi h32 p21 i22 3) h32 fun p34 i35 j36 =>
  zlet (zsi h32 p34 i35 j36 x2) fun h41 =>
  zar 1 (zr h41 p21 i22 2) (zi h41 p21 i22 3) h41 fun p43 i44 j45 =>
  zlet (zsi h41 p43 i44 j45 x3) fun h50 =>
  zlet (zsi h50 p21 i22 3 ((zi h50 p21 i22 3) + (1 : Int32))) fun h52 =>
  some (.inl (), h52)
theorem zmS8 {x0 : zq} {x1 : Int32} {x2 : Int32} {x3 : Int32} {h : zH} {r : Unit ⊕ Nat} {h' : zH} (H : zm8 x0 x1 x2 x3 h = some (r, h')) : zAt 8 0 [some (zrv x0), some (zI x1), some (zI x2), some (zI x3)] [] h (zoU r) h' := by
  unfold zm8 at H
  refine zA_aldn rfl rfl rfl ?_
  obtain ⟨p21, i22, e23, c24, H⟩ := zob_e H
  refine zA_gf3 rfl rfl e23 c24 ?_
  refine zA_aldn rfl rfl rfl ?_
  refine zA_gf0 rfl rfl (Or.inl rfl) e23 c24 ?_
  refine zA_ldn rfl rfl rfl ?_
  obtain ⟨p25, i26, j27, e28, c29, c30, e31, H⟩ := zar_e H
  obtain ⟨h32, e33, H⟩ := zlet_e H
  refine zA_ias rfl rfl e28 c29 c30 e31 e33 ?_
  refine zA_aldn rfl rfl rfl ?_
  refine zA_gf3 rfl rfl e23 c24 ?_
  refine zA_aldn rfl rfl rfl ?_
  refine zA_gf0 rfl rfl (Or.inl rfl) e23 c24 ?_
  refine zA_ldn rfl rfl rfl ?_
  obtain ⟨p34, i35, j36, e37, c38, c39, e40, H⟩ := zar_e H
  obtain ⟨h41, e42, H⟩ := zlet_e H
  refine zA_ias rfl rfl e37 c38 c39 e40 e42 ?_
  refine zA_aldn rfl rfl rfl ?_
  refine zA_gf3 rfl rfl e23 c24 ?_
  refine zA_aldn rfl rfl rfl ?_
  refine zA_gf0 rfl rfl (Or.inl rfl) e23 c24 ?_
  refine zA_ldn rfl rfl rfl ?_
  obtain ⟨p43, i44, j45, e46, c47, c48, e49, H⟩ := zar_e H
  obtain ⟨h50, e51, H⟩ := zlet_e H
  refine zA_ias rfl rfl e46 c47 c48 e49 e51 ?_
  refine zA_aldn rfl rfl rfl ?_
  refine zA_dup rfl rfl (zcat_rv _) ?_
  refine zA_gf0 rfl rfl (Or.inl rfl) e23 c24 ?_
  refine zA_push rfl rfl zkk5 ?_
  refine zA_st (st' := [zI ((zi h50 p21 i22 3) + (1 : Int32)), zrv x0]) rfl rfl rfl rfl ?_
  obtain ⟨h52, e53, H⟩ := zlet_e H
  refine zA_pf0 rfl rfl e23 c24 e53 ?_
  cases H
  exact zA_ret rfl rfl
theorem zmE8 (x0 : zq) (x1 : Int32) (x2 : Int32) (x3 : Int32) : zpad (zPr.2.1 8).1 (zil [zrv x0, zI x1, zI x2, zI x3]) = [some (zrv x0), some (zI x1), some (zI x2), some (zI x3)] := by
  simp only [zil_A, zil_I, zil_F, zil_D, zil_N]
  rfl
-- 50: ReleaseHouse.step(IIII)I
def zm50 (x0 : zq) (x1 : Int32) (x2 : Int32) (x3 : Int32) (x4 : Int32) (h : zH) : zRs Int32 :=
  zob 11 x0 fun p21 i22 =>
  zlz (zr h p21 i22 1) h fun v30 =>
  zb (zm130 x1 v30 h) fun _ h32 =>
  zb (zm51 x2 x3 x4 h32) fun _ h33 =>
  zlg (zr h33 p21 i22 1) x1 h33 fun v40 =>
  zob 4 v40 fun p42 i43 =>
  if (10 : Int32) ≤ (zi h33 p42 i43 3) then
    some (.inr 1, zro h33 1 6)
  else
    if (zi h33 p42 i43 4) = 0 then
      zb (zm8 v40 x2 x3 x4 h33) fun _ h48 =>
      some (.inl (zi h48 p42 i43 3), h48)
    else
      some (.inr 1, zro h33 1 6)
theorem zmS50 {x0 : zq} {x1 : Int32} {x2 : Int32} {x3 : Int32} {x4 : Int32} {h : zH} {r : Int32 ⊕ Nat} {h' : zH} (H : zm50 x0 x1 x2 x3 x4 h = some (r, h')) : zAt 50 0 [some (zrv x0), some (zI x1), some (zI x2), some (zI x3), some (zI x4), none] [] h (zoI r) h' := by
  unfold zm50 at H
  refine zA_ldn rfl rfl rfl ?_
  refine zA_aldn rfl rfl rfl ?_
  obtain ⟨p21, i22, e23, c24, H⟩ := zob_e H
  refine zA_gf3 rfl rfl e23 c24 ?_
  obtain ⟨p25, i26, v30, e27, c28, c29, e31, H⟩ := zlz_e H
  refine zA_l2 rfl rfl rfl e27 c28 c29 e31 ?_
  rcases zb_e H with ⟨u51, h32, C, H⟩ | ⟨E, h32, C, H⟩
  · refine zA_callU (as := [zI x1, zI v30]) (st' := []) rfl rfl rfl rfl rfl (zmE130 _ _) rfl (zmS130 C) ?_
    refine zA_ldn rfl rfl rfl ?_
    refine zA_ldn rfl rfl rfl ?_
    refine zA_ld rfl rfl rfl ?_
    rcases zb_e H with ⟨u50, h33, C, H⟩ | ⟨E, h33, C, H⟩
    · refine zA_callU (as := [zI x2, zI x3, zI x4]) (st' := []) rfl rfl rfl rfl rfl (zmE51 _ _ _) rfl (zmS51 C) ?_
      refine zA_aldn rfl rfl rfl ?_
      refine zA_gf3 rfl rfl e23 c24 ?_
      refine zA_ldn rfl rfl rfl ?_
      obtain ⟨p34, i35, v40, e36, c37, c38, c39, e41, H⟩ := zlg_e H
      refine zA_l3 rfl rfl rfl e36 c37 c38 c39 e41 ?_
      obtain ⟨p42, i43, e44, c45, H⟩ := zob_e H
      refine zA_cast rfl rfl e44 c45 ?_
      refine zA_ast2 rfl rfl rfl (zset1 (L' := [some (zrv x0), some (zI x1), some (zI x2), some (zI x3), some (zI x4), some (zrv v40)]) (zcat_rv _) rfl (zpcV rfl rfl)) ?_
      refine zA_ald rfl rfl rfl ?_
      refine zA_gf0 rfl rfl (Or.inl rfl) e44 c45 ?_
      refine zA_push rfl rfl zkk13 ?_
      rcases zite_e H with ⟨c46, H⟩ | ⟨c46, H⟩
      · refine zA_brT (c := (10 : Int32) ≤ (zi h33 p42 i43 3)) rfl rfl rfl c46 ?_
        refine zA_tr (L := [none, none, none, none, none, none]) rfl rfl ?_
        cases H
        exact zA_thr rfl rfl
      · refine zA_brF (c := (10 : Int32) ≤ (zi h33 p42 i43 3)) rfl rfl rfl c46 ?_
        refine zA_ald rfl rfl rfl ?_
        refine zA_gf0 rfl rfl (Or.inr rfl) e44 c45 ?_
        rcases zite_e H with ⟨c47, H⟩ | ⟨c47, H⟩
        · refine zA_brT (c := (zi h33 p42 i43 4) = 0) rfl rfl rfl c47 ?_
          refine zA_tr (L := [none, none, some (zI x2), some (zI x3), some (zI x4), some (zrv v40)]) rfl rfl ?_
          refine zA_ald rfl rfl rfl ?_
          refine zA_ldn rfl rfl rfl ?_
          refine zA_ldn rfl rfl rfl ?_
          refine zA_ld rfl rfl rfl ?_
          rcases zb_e H with ⟨u49, h48, C, H⟩ | ⟨E, h48, C, H⟩
          · refine zA_callU (as := [zrv v40, zI x2, zI x3, zI x4]) (st' := []) rfl rfl rfl (zrcv_Q e44 c45) rfl (zmE8 _ _ _ _) rfl (zmS8 C) ?_
            refine zA_ald rfl rfl rfl ?_
            refine zA_gf0 rfl rfl (Or.inl rfl) e44 c45 ?_
            cases H
            exact zA_ret rfl rfl
          · cases H
            exact zA_callX (as := [zrv v40, zI x2, zI x3, zI x4]) (st' := []) rfl rfl (zrcv_Q e44 c45) rfl (zmE8 _ _ _ _) rfl rfl rfl (zmS8 C)
        · refine zA_brF (c := (zi h33 p42 i43 4) = 0) rfl rfl rfl c47 ?_
          refine zA_tr (L := [none, none, none, none, none, none]) rfl rfl ?_
          cases H
          exact zA_thr rfl rfl
    · cases H
      exact zA_callX (as := [zI x2, zI x3, zI x4]) (st' := []) rfl rfl rfl rfl (zmE51 _ _ _) rfl rfl rfl (zmS51 C)
  · cases H
    exact zA_callX (as := [zI x1, zI v30]) (st' := []) rfl rfl rfl rfl (zmE130 _ _) rfl rfl rfl (zmS130 C)
theorem zmE50 (x0 : zq) (x1 : Int32) (x2 : Int32) (x3 : Int32) (x4 : Int32) : zpad (zPr.2.1 50).1 (zil [zrv x0, zI x1, zI x2, zI x3, zI x4]) = [some (zrv x0), some (zI x1), some (zI x2), some (zI x3), some (zI x4), none] := by
  simp only [zil_A, zil_I, zil_F, zil_D, zil_N]
  rfl
-- 41: ReleaseHouse.checkNeeded(III)V
def zm41 (x0 : Int32) (x1 : Int32) (x2 : Int32) (h : zH) : zRs Unit :=
  if x1 = 0 then
    zb (zm131 x2 (-1 : Int32) (-1 : Int32) h) fun _ h22 =>
    some (.inl (), h22)
  else
    zb (zm131 x2 (0 : Int32) (3 : Int32) h) fun _ h24 =>
    if x2 = x0 then
      some (.inr 0, zro h24 1 6)
    else
      some (.inl (), h24)
theorem zmS41 {x0 : Int32} {x1 : Int32} {x2 : Int32} {h : zH} {r : Unit ⊕ Nat} {h' : zH} (H : zm41 x0 x1 x2 h = some (r, h')) : zAt 41 0 [some (zI x0), some (zI x1), some (zI x2)] [] h (zoU r) h' := by
  unfold zm41 at H
  refine zA_ldn rfl rfl rfl ?_
  rcases zite_e H with ⟨c21, H⟩ | ⟨c21, H⟩
  · refine zA_brF' (c := x1 = 0) rfl rfl rfl c21 ?_
    refine zA_ldn rfl rfl rfl ?_
    refine zA_push rfl rfl zkk6 ?_
    refine zA_push rfl rfl zkk6 ?_
    rcases zb_e H with ⟨u23, h22, C, H⟩ | ⟨E, h22, C, H⟩
    · refine zA_callU (as := [zI x2, zI (-1 : Int32), zI (-1 : Int32)]) (st' := []) rfl rfl rfl rfl rfl (zmE131 _ _ _) rfl (zmS131 C) ?_
      cases H
      exact zA_ret rfl rfl
    · cases H
      exact zA_callX (as := [zI x2, zI (-1 : Int32), zI (-1 : Int32)]) (st' := []) rfl rfl rfl rfl (zmE131 _ _ _) rfl rfl rfl (zmS131 C)
  · refine zA_brT' (c := x1 = 0) rfl rfl rfl c21 ?_
    refine zA_tr (L := [some (zI x0), none, some (zI x2)]) rfl rfl ?_
    refine zA_ldn rfl rfl rfl ?_
    refine zA_push rfl rfl zkk7 ?_
    refine zA_push rfl rfl zkk3 ?_
    rcases zb_e H with ⟨u26, h24, C, H⟩ | ⟨E, h24, C, H⟩
    · refine zA_callU (as := [zI x2, zI (0 : Int32), zI (3 : Int32)]) (st' := []) rfl rfl rfl rfl rfl (zmE131 _ _ _) rfl (zmS131 C) ?_
      refine zA_ldn rfl rfl rfl ?_
      refine zA_ldn rfl rfl rfl ?_
      rcases zite_e H with ⟨c25, H⟩ | ⟨c25, H⟩
      · refine zA_brF' (c := x2 = x0) rfl rfl rfl c25 ?_
        cases H
        exact zA_thr rfl rfl
      · refine zA_brT' (c := x2 = x0) rfl rfl rfl c25 ?_
        refine zA_tr (L := [none, none, none]) rfl rfl ?_
        cases H
        exact zA_ret rfl rfl
    · cases H
      exact zA_callX (as := [zI x2, zI (0 : Int32), zI (3 : Int32)]) (st' := []) rfl rfl rfl rfl (zmE131 _ _ _) rfl rfl rfl (zmS131 C)
theorem zmE41 (x0 : Int32) (x1 : Int32) (x2 : Int32) : zpad (zPr.2.1 41).1 (zil [zI x0, zI x1, zI x2]) = [some (zI x0), some (zI x1), some (zI x2)] := by
  simp only [zil_A, zil_I, zil_F, zil_D, zil_N]
  rfl
-- 133: ReleaseHouse.isIn(II)Z
def zm133 (x0 : Int32) (x1 : Int32) (h : zH) : zRs Int32 :=
  if (x0 &&& ((1 : Int32) <<< (x1 &&& 31))) = 0 then
    some (.inl (0 : Int32), h)
  else
    some (.inl (1 : Int32), h)
theorem zmS133 {x0 : Int32} {x1 : Int32} {h : zH} {r : Int32 ⊕ Nat} {h' : zH} (H : zm133 x0 x1 h = some (r, h')) : zAt 133 0 [some (zI x0), some (zI x1)] [] h (zoI r) h' := by
  unfold zm133 at H
  refine zA_ldn rfl rfl rfl ?_
  refine zA_push rfl rfl zkk5 ?_
  refine zA_ldn rfl rfl rfl ?_
  refine zA_st (st' := [zI ((1 : Int32) <<< (x1 &&& 31)), zI x0]) rfl rfl rfl rfl ?_
  refine zA_st (st' := [zI (x0 &&& ((1 : Int32) <<< (x1 &&& 31)))]) rfl rfl rfl rfl ?_
  rcases zite_e H with ⟨c21, H⟩ | ⟨c21, H⟩
  · refine zA_brT (c := (x0 &&& ((1 : Int32) <<< (x1 &&& 31))) = 0) rfl rfl rfl c21 ?_
    refine zA_tr (L := [none, none]) rfl rfl ?_
    refine zA_push rfl rfl zkk7 ?_
    cases H
    exact zA_ret rfl (zret_Z (by decide))
  · refine zA_brF (c := (x0 &&& ((1 : Int32) <<< (x1 &&& 31))) = 0) rfl rfl rfl c21 ?_
    refine zA_push rfl rfl zkk5 ?_
    refine zA_go rfl rfl ?_
    refine zA_tr (L := [none, none]) rfl rfl ?_
    cases H
    exact zA_ret rfl (zret_Z (by decide))
theorem zmE133 (x0 : Int32) (x1 : Int32) : zpad (zPr.2.1 133).1 (zil [zI x0, zI x1]) = [some (zI x0), some (zI x1)] := by
  simp only [zil_A, zil_I, zil_F, zil_D, zil_N]
  rfl
-- 0: ReleaseHouse$Artefact.<init>(III)V
def zm0 (x0 : zq) (x1 : Int32) (x2 : Int32) (x3 : Int32) (h : zH) : zRs Unit :=
  znn x0 fun p21 i22 =>
  if (3 : Int32) < 0 ∨ 100000 < (3 : Int32).toNatClampNeg then none else
  zlet (znw h 21 (3 : Int32).toNatClampNeg (3 : Int32).toNatClampNeg) fun h25 =>
  zob 0 x0 fun p27 i28 =>
  zlet (zsr h25 p27 i28 11 (some (21, zct h 21))) fun h31 =>
  zlet (zsi h31 p27 i28 0 x1) fun h33 =>
  zlet (zsi h33 p27 i28 1 x2) fun h35 =>
  zlet (zsi h35 p27 i28 2 x3) fun h37 =>
  some (.inl (), h37)
theorem zmS0 {x0 : zq} {x1 : Int32} {x2 : Int32} {x3 : Int32} {h : zH} {r : Unit ⊕ Nat} {h' : zH} (H : zm0 x0 x1 x2 x3 h = some (r, h')) : zAt 0 0 [some (zrv x0), some (zI x1), some (zI x2), some (zI x3)] [] h (zoU r) h' := by
  unfold zm0 at H
  refine zA_aldn rfl rfl rfl ?_
  obtain ⟨p21, i22, e23, H⟩ := znn_e H
  refine zA_l0 rfl rfl rfl e23 ?_
  refine zA_aldn rfl rfl rfl ?_
  refine zA_push rfl rfl zkk3 ?_
  rcases zite_e H with ⟨_, H⟩ | ⟨ch25, H⟩
  · cases H
  obtain ⟨h25, e26, H⟩ := zlet_e H
  refine zA_newA rfl rfl (fun _ _ _ _ _ => rfl) ch25 e26 ?_
  obtain ⟨p27, i28, e29, c30, H⟩ := zob_e H
  obtain ⟨h31, e32, H⟩ := zlet_e H
  refine zA_pf3 rfl rfl e29 c30 e32 ?_
  refine zA_aldn rfl rfl rfl ?_
  refine zA_ldn rfl rfl rfl ?_
  obtain ⟨h33, e34, H⟩ := zlet_e H
  refine zA_pf0 rfl rfl e29 c30 e34 ?_
  refine zA_aldn rfl rfl rfl ?_
  refine zA_ldn rfl rfl rfl ?_
  obtain ⟨h35, e36, H⟩ := zlet_e H
  refine zA_pf0 rfl rfl e29 c30 e36 ?_
  refine zA_aldn rfl rfl rfl ?_
  refine zA_ldn rfl rfl rfl ?_
  obtain ⟨h37, e38, H⟩ := zlet_e H
  refine zA_pf0 rfl rfl e29 c30 e38 ?_
  cases H
  exact zA_ret rfl rfl
theorem zmE0 (x0 : zq) (x1 : Int32) (x2 : Int32) (x3 : Int32) : zpad (zPr.2.1 0).1 (zil [zrv x0, zI x1, zI x2, zI x3]) = [some (zrv x0), some (zI x1), some (zI x2), some (zI x3)] := by
  simp only [zil_A, zil_I, zil_F, zil_D, zil_N]
  rfl
-- 40: ReleaseHouse.artefact(IIIIIIIZZ)I
def zm40 (x0 : zq) (x1 : Int32) (x2 : Int32) (x3 : Int32) (x4 : Int32) (x5 : Int32) (x6 : Int32) (x7 : Int32) (x8 : Int32) (x9 : Int32) (h : zH) : zRs Int32 :=
  zb (zm131 x1 (0 : Int32) (3 : Int32) h) fun _ h21 =>
  zb (zm131 x2 (0 : Int32) (5 : Int32) h21) fun _ h22 =>
  zb (zm131 x3 (0 : Int32) (255 : Int32) h22) fun _ h23 =>
  zb (zm131 x4 (0 : Int32) (255 : Int32) h23) fun _ h24 =>
  zb (zm41 x1 x4 x5 h24) fun _ h25 =>
  zb (zm131 x6 (1 : Int32) (255 : Int32) h25) fun _ h26 =>
  zb (zm131 x7 (0 : Int32) (7 : Int32) h26) fun _ h27 =>
  zb (zm133 x6 x7 h27) fun x29 h28 =>
  if x29 = 0 then
    some (.inr 0, zro h28 1 6)
  else
    zob 11 x0 fun p31 i32 =>
    zlz (zr h28 p31 i32 0) h28 fun v40 =>
    if v40 < (30 : Int32) then
      zlet (znw h28 0 0 12) fun h43 =>
      zlz (zr h43 p31 i32 0) h43 fun v50 =>
      zob 0 (some (0, zct h28 0)) fun p52 i53 =>
      zb2 (zm0 (some (0, zct h28 0)) v50 x1 x2 h43) fun _ h56 =>
      zlet (some (0, zct h28 0)) fun x57 =>
      zob 0 x57 fun p59 i60 =>
      zlet (zsi h56 p59 i60 3 x3) fun h63 =>
      zlet (zsi h63 p59 i60 4 x4) fun h65 =>
      zlet (zsi h65 p59 i60 5 x5) fun h67 =>
      zlet (zsi h67 p59 i60 6 x6) fun h69 =>
      zlet (zsi h69 p59 i60 7 x7) fun h71 =>
      zif (x8 = 0 ∨ x8 = 1) <|
      zlet (zsi h71 p59 i60 8 x8) fun h73 =>
      zif (x9 = 0 ∨ x9 = 1) <|
      zlet (zsi h73 p59 i60 9 x9) fun h76 =>
      znn (zr h76 p31 i32 0) fun p79 i80 =>
      znn x57 fun p86 i87 =>
      zif ((ztg p79 == 9 && ztg p86 == 0 && (zkc p86 == zel p79 && zelB h76 p79 i80)) = true) <|
      zif (zi h76 p79 i80 1 = 1 ∧ zln h76 p79 i80 < 33) <|
      zlet (zladd h76 p79 i80 p86 i87) fun h84 =>
      some (.inl (zi h84 p59 i60 0), h84)
    else
      some (.inr 1, zro h28 1 6)
theorem zmS40 {x0 : zq} {x1 : Int32} {x2 : Int32} {x3 : Int32} {x4 : Int32} {x5 : Int32} {x6 : Int32} {x7 : Int32} {x8 : Int32} {x9 : Int32} {h : zH} {r : Int32 ⊕ Nat} {h' : zH} (H : zm40 x0 x1 x2 x3 x4 x5 x6 x7 x8 x9 h = some (r, h')) : zAt 40 0 [some (zrv x0), some (zI x1), some (zI x2), some (zI x3), some (zI x4), some (zI x5), some (zI x6), some (zI x7), some (zI x8), some (zI x9), none] [] h (zoI r) h' := by
  unfold zm40 at H
  refine zA_ldn rfl rfl rfl ?_
  refine zA_push rfl rfl zkk7 ?_
  refine zA_push rfl rfl zkk3 ?_
  rcases zb_e H with ⟨u96, h21, C, H⟩ | ⟨E, h21, C, H⟩
  · refine zA_callU (as := [zI x1, zI (0 : Int32), zI (3 : Int32)]) (st' := []) rfl rfl rfl rfl rfl (zmE131 _ _ _) rfl (zmS131 C) ?_
    refine zA_ldn rfl rfl rfl ?_
    refine zA_push rfl rfl zkk7 ?_
    refine zA_push rfl rfl zkk16 ?_
    rcases zb_e H with ⟨u95, h22, C, H⟩ | ⟨E, h22, C, H⟩
    · refine zA_callU (as := [zI x2, zI (0 : Int32), zI (5 : Int32)]) (st' := []) rfl rfl rfl rfl rfl (zmE131 _ _ _) rfl (zmS131 C) ?_
      refine zA_ldn rfl rfl rfl ?_
      refine zA_push rfl rfl zkk7 ?_
      refine zA_push rfl rfl zkk19 ?_
      rcases zb_e H with ⟨u94, h23, C, H⟩ | ⟨E, h23, C, H⟩
      · refine zA_callU (as := [zI x3, zI (0 : Int32), zI (255 : Int32)]) (st' := []) rfl rfl rfl rfl rfl (zmE131 _ _ _) rfl (zmS131 C) ?_
        refine zA_ld rfl rfl rfl ?_
        refine zA_push rfl rfl zkk7 ?_
        refine zA_push rfl rfl zkk19 ?_
        rcases zb_e H with ⟨u93, h24, C, H⟩ | ⟨E, h24, C, H⟩
        · refine zA_callU (as := [zI x4, zI (0 : Int32), zI (255 : Int32)]) (st' := []) rfl rfl rfl rfl rfl (zmE131 _ _ _) rfl (zmS131 C) ?_
          refine zA_ldn rfl rfl rfl ?_
          refine zA_ld rfl rfl rfl ?_
          refine zA_ld rfl rfl rfl ?_
          rcases zb_e H with ⟨u92, h25, C, H⟩ | ⟨E, h25, C, H⟩
          · refine zA_callU (as := [zI x1, zI x4, zI x5]) (st' := []) rfl rfl rfl rfl rfl (zmE41 _ _ _) rfl (zmS41 C) ?_
            refine zA_ld rfl rfl rfl ?_
            refine zA_push rfl rfl zkk5 ?_
            refine zA_push rfl rfl zkk19 ?_
            rcases zb_e H with ⟨u91, h26, C, H⟩ | ⟨E, h26, C, H⟩
            · refine zA_callU (as := [zI x6, zI (1 : Int32), zI (255 : Int32)]) (st' := []) rfl rfl rfl rfl rfl (zmE131 _ _ _) rfl (zmS131 C) ?_
              refine zA_ld rfl rfl rfl ?_
              refine zA_push rfl rfl zkk7 ?_
              refine zA_push rfl rfl zkk20 ?_
              rcases zb_e H with ⟨u90, h27, C, H⟩ | ⟨E, h27, C, H⟩
              · refine zA_callU (as := [zI x7, zI (0 : Int32), zI (7 : Int32)]) (st' := []) rfl rfl rfl rfl rfl (zmE131 _ _ _) rfl (zmS131 C) ?_
                refine zA_ld rfl rfl rfl ?_
                refine zA_ld rfl rfl rfl ?_
                rcases zb_e H with ⟨x29, h28, C, H⟩ | ⟨E, h28, C, H⟩
                · refine zA_callV (as := [zI x6, zI x7]) (st' := []) rfl rfl rfl rfl rfl (zmE133 _ _) rfl (zmS133 C) ?_
                  rcases zite_e H with ⟨c30, H⟩ | ⟨c30, H⟩
                  · refine zA_brF' (c := x29 = 0) rfl rfl rfl c30 ?_
                    cases H
                    exact zA_thr rfl rfl
                  · refine zA_brT' (c := x29 = 0) rfl rfl rfl c30 ?_
                    refine zA_aldn rfl rfl rfl ?_
                    obtain ⟨p31, i32, e33, c34, H⟩ := zob_e H
                    refine zA_gf3 rfl rfl e33 c34 ?_
                    obtain ⟨p35, i36, v40, e37, c38, c39, e41, H⟩ := zlz_e H
                    refine zA_l2 rfl rfl rfl e37 c38 c39 e41 ?_
                    refine zA_push rfl rfl zkk21 ?_
                    rcases zite_e H with ⟨c42, H⟩ | ⟨c42, H⟩
                    · refine zA_brT (c := v40 < (30 : Int32)) rfl rfl rfl c42 ?_
                      obtain ⟨h43, e44, H⟩ := zlet_e H
                      refine zA_new (n := 12) rfl rfl (fun _ _ _ _ => rfl) e44 ?_
                      refine zA_dup rfl rfl (zcat_rv _) ?_
                      refine zA_aldn rfl rfl rfl ?_
                      refine zA_gf3 rfl rfl e33 c34 ?_
                      obtain ⟨p45, i46, v50, e47, c48, c49, e51, H⟩ := zlz_e H
                      refine zA_l2 rfl rfl rfl e47 c48 c49 e51 ?_
                      refine zA_ldn rfl rfl rfl ?_
                      refine zA_ldn rfl rfl rfl ?_
                      obtain ⟨p52, i53, e54, c55, H⟩ := zob_e H
                      obtain ⟨u89, h56, C, H⟩ := zb2_e H
                      refine zA_callU (as := [zrv (some (0, zct h28 0)), zI v50, zI x1, zI x2]) (st' := [zrv (some (0, zct h28 0))]) rfl rfl rfl (zrcv_Q e54 c55) rfl (zmE0 _ _ _ _) rfl (zmS0 C) ?_
                      obtain ⟨x57, e58, H⟩ := zlet_e H
                      refine zA_ast2 rfl rfl e58 (zset1 (L' := [some (zrv x0), some (zI x1), some (zI x2), some (zI x3), some (zI x4), some (zI x5), some (zI x6), some (zI x7), some (zI x8), some (zI x9), some (zrv x57)]) (zcat_rv _) rfl (zpcV rfl rfl)) ?_
                      refine zA_ald rfl rfl rfl ?_
                      refine zA_ldn rfl rfl rfl ?_
                      obtain ⟨p59, i60, e61, c62, H⟩ := zob_e H
                      obtain ⟨h63, e64, H⟩ := zlet_e H
                      refine zA_pf0 rfl rfl e61 c62 e64 ?_
                      refine zA_ald rfl rfl rfl ?_
                      refine zA_ld rfl rfl rfl ?_
                      obtain ⟨h65, e66, H⟩ := zlet_e H
                      refine zA_pf0 rfl rfl e61 c62 e66 ?_
                      refine zA_ald rfl rfl rfl ?_
                      refine zA_ld rfl rfl rfl ?_
                      obtain ⟨h67, e68, H⟩ := zlet_e H
                      refine zA_pf0 rfl rfl e61 c62 e68 ?_
                      refine zA_ald rfl rfl rfl ?_
                      refine zA_ld rfl rfl rfl ?_
                      obtain ⟨h69, e70, H⟩ := zlet_e H
                      refine zA_pf0 rfl rfl e61 c62 e70 ?_
                      refine zA_ald rfl rfl rfl ?_
                      refine zA_ld rfl rfl rfl ?_
                      obtain ⟨h71, e72, H⟩ := zlet_e H
                      refine zA_pf0 rfl rfl e61 c62 e72 ?_
                      refine zA_ald rfl rfl rfl ?_
                      refine zA_ld rfl rfl rfl ?_
                      obtain ⟨c75, H⟩ := zif_e H
                      obtain ⟨h73, e74, H⟩ := zlet_e H
                      refine zA_pf1 rfl rfl e61 c62 c75 e74 ?_
                      refine zA_ald rfl rfl rfl ?_
                      refine zA_ld rfl rfl rfl ?_
                      obtain ⟨c78, H⟩ := zif_e H
                      obtain ⟨h76, e77, H⟩ := zlet_e H
                      refine zA_pf1 rfl rfl e61 c62 c78 e77 ?_
                      refine zA_aldn rfl rfl rfl ?_
                      refine zA_gf3 rfl rfl e33 c34 ?_
                      refine zA_ald rfl rfl rfl ?_
                      obtain ⟨p79, i80, e81, H⟩ := znn_e H
                      obtain ⟨p86, i87, e88, H⟩ := znn_e H
                      obtain ⟨c82, H⟩ := zif_e H
                      obtain ⟨c83, H⟩ := zif_e H
                      obtain ⟨h84, e85, H⟩ := zlet_e H
                      refine zA_l4 rfl rfl rfl e81 e88 c82 c83 e85 ?_
                      refine zA_pop rfl rfl rfl ?_
                      refine zA_ald rfl rfl rfl ?_
                      refine zA_gf0 rfl rfl (Or.inl rfl) e61 c62 ?_
                      cases H
                      exact zA_ret rfl rfl
                    · refine zA_brF (c := v40 < (30 : Int32)) rfl rfl rfl c42 ?_
                      cases H
                      exact zA_thr rfl rfl
                · cases H
                  exact zA_callX (as := [zI x6, zI x7]) (st' := []) rfl rfl rfl rfl (zmE133 _ _) rfl rfl rfl (zmS133 C)
              · cases H
                exact zA_callX (as := [zI x7, zI (0 : Int32), zI (7 : Int32)]) (st' := []) rfl rfl rfl rfl (zmE131 _ _ _) rfl rfl rfl (zmS131 C)
            · cases H
              exact zA_callX (as := [zI x6, zI (1 : Int32), zI (255 : Int32)]) (st' := []) rfl rfl rfl rfl (zmE131 _ _ _) rfl rfl rfl (zmS131 C)
          · cases H
            exact zA_callX (as := [zI x1, zI x4, zI x5]) (st' := []) rfl rfl rfl rfl (zmE41 _ _ _) rfl rfl rfl (zmS41 C)
        · cases H
          exact zA_callX (as := [zI x4, zI (0 : Int32), zI (255 : Int32)]) (st' := []) rfl rfl rfl rfl (zmE131 _ _ _) rfl rfl rfl (zmS131 C)
      · cases H
        exact zA_callX (as := [zI x3, zI (0 : Int32), zI (255 : Int32)]) (st' := []) rfl rfl rfl rfl (zmE131 _ _ _) rfl rfl rfl (zmS131 C)
    · cases H
      exact zA_callX (as := [zI x2, zI (0 : Int32), zI (5 : Int32)]) (st' := []) rfl rfl rfl rfl (zmE131 _ _ _) rfl rfl rfl (zmS131 C)
  · cases H
    exact zA_callX (as := [zI x1, zI (0 : Int32), zI (3 : Int32)]) (st' := []) rfl rfl rfl rfl (zmE131 _ _ _) rfl rfl rfl (zmS131 C)
theorem zmE40 (x0 : zq) (x1 : Int32) (x2 : Int32) (x3 : Int32) (x4 : Int32) (x5 : Int32) (x6 : Int32) (x7 : Int32) (x8 : Int32) (x9 : Int32) : zpad (zPr.2.1 40).1 (zil [zrv x0, zI x1, zI x2, zI x3, zI x4, zI x5, zI x6, zI x7, zI x8, zI x9]) = [some (zrv x0), some (zI x1), some (zI x2), some (zI x3), some (zI x4), some (zI x5), some (zI x6), some (zI x7), some (zI x8), some (zI x9), none] := by
  simp only [zil_A, zil_I, zil_F, zil_D, zil_N]
  rfl
-- 10: ReleaseHouse$Release.hasEnded()Z
def zm10 (x0 : zq) (h : zH) : zRs Int32 :=
  zob 5 x0 fun p21 i22 =>
  if (zi h p21 i22 2) = 0 then
    some (.inl (0 : Int32), h)
  else
    if (zi h p21 i22 2) = (1 : Int32) then
      some (.inl (0 : Int32), h)
    else
      some (.inl (1 : Int32), h)
theorem zmS10 {x0 : zq} {h : zH} {r : Int32 ⊕ Nat} {h' : zH} (H : zm10 x0 h = some (r, h')) : zAt 10 0 [some (zrv x0)] [] h (zoI r) h' := by
  unfold zm10 at H
  refine zA_aldn rfl rfl rfl ?_
  obtain ⟨p21, i22, e23, c24, H⟩ := zob_e H
  refine zA_gf0 rfl rfl (Or.inl rfl) e23 c24 ?_
  rcases zite_e H with ⟨c25, H⟩ | ⟨c25, H⟩
  · refine zA_brT (c := (zi h p21 i22 2) = 0) rfl rfl rfl c25 ?_
    refine zA_tr (L := [none]) rfl rfl ?_
    refine zA_push rfl rfl zkk7 ?_
    cases H
    exact zA_ret rfl (zret_Z (by decide))
  · refine zA_brF (c := (zi h p21 i22 2) = 0) rfl rfl rfl c25 ?_
    refine zA_aldn rfl rfl rfl ?_
    refine zA_gf0 rfl rfl (Or.inl rfl) e23 c24 ?_
    refine zA_push rfl rfl zkk5 ?_
    rcases zite_e H with ⟨c26, H⟩ | ⟨c26, H⟩
    · refine zA_brT (c := (zi h p21 i22 2) = (1 : Int32)) rfl rfl rfl c26 ?_
      refine zA_tr (L := [none]) rfl rfl ?_
      refine zA_push rfl rfl zkk7 ?_
      cases H
      exact zA_ret rfl (zret_Z (by decide))
    · refine zA_brF (c := (zi h p21 i22 2) = (1 : Int32)) rfl rfl rfl c26 ?_
      refine zA_push rfl rfl zkk5 ?_
      refine zA_go rfl rfl ?_
      refine zA_tr (L := [none]) rfl rfl ?_
      cases H
      exact zA_ret rfl (zret_Z (by decide))
theorem zmE10 (x0 : zq) : zpad (zPr.2.1 10).1 (zil [zrv x0]) = [some (zrv x0)] := by
  simp only [zil_A, zil_I, zil_F, zil_D, zil_N]
  rfl
def zm53_22 (k2 : zq → zq → Int32 → zH → zRs zq) (x0 : zq) (x1 : zq) (x2 : Int32) (h : zH) : zRs zq :=
  zlet (x2 + (1 : Int32)) fun x21 =>
  k2 x0 x1 x21 h
theorem zmS53_22 {k2 : zq → zq → Int32 → zH → zRs zq} (hk2 : ∀ (x0 : zq) (x1 : zq) (x2 : Int32) (h : zH) (r : zq ⊕ Nat) (h' : zH), k2 x0 x1 x2 h = some (r, h') → zAt 53 2 [some (zrv x0), some (zrv x1), some (zI x2), none] [] h (zoA r) h') : ∀ (x0 : zq) (x1 : zq) (x2 : Int32) (h : zH) (r : zq ⊕ Nat) (h' : zH), zm53_22 k2 x0 x1 x2 h = some (r, h') → zAt 53 22 [some (zrv x0), some (zrv x1), some (zI x2), none] [] h (zoA r) h' := by
  intro x0 x1 x2 h r h' H
  unfold zm53_22 at H
  obtain ⟨x21, e22, H⟩ := zlet_e H
  refine zA_inc rfl rfl rfl (e22.trans (congrArg (_ + ·) zkk8)) (zset1 (L' := [some (zrv x0), some (zrv x1), some (zI x21), none]) rfl rfl (zpcV rfl (zcat_rv _))) ?_
  refine zA_go rfl rfl ?_
  exact zA_tr (L := [some (zrv x0), some (zrv x1), some (zI x21), none]) rfl rfl (hk2 _ _ _ _ _ _ H)
def zm53_2 : Nat → zq → zq → Int32 → zH → zRs zq
  | 0, _, _, _, _ => none
  | n + 1, x0, x1, x2, h =>
    zob 11 x0 fun p21 i22 =>
    zlz (zr h p21 i22 2) h fun v30 =>
    if v30 ≤ x2 then
      some (.inl (none : zq), h)
    else
      zlg (zr h p21 i22 2) x2 h fun v39 =>
      zob 5 v39 fun p41 i42 =>
      if (zr h p41 i42 0) = x1 then
        zb (zm10 v39 h) fun x47 h46 =>
        if x47 = 0 then
          some (.inl v39, h46)
        else
          zm53_22 (zm53_2 n) x0 x1 x2 h46
      else
        zm53_22 (zm53_2 n) x0 x1 x2 h
theorem zmS53_2 : ∀ (n : Nat) (x0 : zq) (x1 : zq) (x2 : Int32) (h : zH) (r : zq ⊕ Nat) (h' : zH), zm53_2 n x0 x1 x2 h = some (r, h') → zAt 53 2 [some (zrv x0), some (zrv x1), some (zI x2), none] [] h (zoA r) h' := by
  intro n
  induction n with
  | zero => intro x0 x1 x2 h r h' H; cases H
  | succ n ih =>
    intro x0 x1 x2 h r h' H
    unfold zm53_2 at H
    refine zA_ldn rfl rfl rfl ?_
    refine zA_aldn rfl rfl rfl ?_
    obtain ⟨p21, i22, e23, c24, H⟩ := zob_e H
    refine zA_gf3 rfl rfl e23 c24 ?_
    obtain ⟨p25, i26, v30, e27, c28, c29, e31, H⟩ := zlz_e H
    refine zA_l2 rfl rfl rfl e27 c28 c29 e31 ?_
    rcases zite_e H with ⟨c32, H⟩ | ⟨c32, H⟩
    · refine zA_brT (c := v30 ≤ x2) rfl rfl rfl c32 ?_
      refine zA_tr (L := [none, none, none, none]) rfl rfl ?_
      refine zA_push rfl rfl zkk22 ?_
      cases H
      exact zA_ret rfl (zret_A _)
    · refine zA_brF (c := v30 ≤ x2) rfl rfl rfl c32 ?_
      refine zA_aldn rfl rfl rfl ?_
      refine zA_gf3 rfl rfl e23 c24 ?_
      refine zA_ldn rfl rfl rfl ?_
      obtain ⟨p33, i34, v39, e35, c36, c37, c38, e40, H⟩ := zlg_e H
      refine zA_l3 rfl rfl rfl e35 c36 c37 c38 e40 ?_
      obtain ⟨p41, i42, e43, c44, H⟩ := zob_e H
      refine zA_cast rfl rfl e43 c44 ?_
      refine zA_astn2 rfl rfl rfl (zset1 (L' := [some (zrv x0), some (zrv x1), some (zI x2), some (zrv v39)]) (zcat_rv _) rfl (zpcV rfl rfl)) ?_
      refine zA_aldn rfl rfl rfl ?_
      refine zA_gf3 rfl rfl e43 c44 ?_
      refine zA_aldn rfl rfl rfl ?_
      rcases zite_e H with ⟨c45, H⟩ | ⟨c45, H⟩
      · refine zA_brF' (c := (zr h p41 i42 0) = x1) rfl rfl zIf_ane c45 ?_
        refine zA_aldn rfl rfl rfl ?_
        rcases zb_e H with ⟨x47, h46, C, H⟩ | ⟨E, h46, C, H⟩
        · refine zA_callV (as := [zrv v39]) (st' := []) rfl rfl rfl (zrcv_Q e43 c44) rfl (zmE10 _) rfl (zmS10 C) ?_
          rcases zite_e H with ⟨c48, H⟩ | ⟨c48, H⟩
          · refine zA_brF' (c := x47 = 0) rfl rfl rfl c48 ?_
            refine zA_aldn rfl rfl rfl ?_
            cases H
            exact zA_ret rfl (zret_A _)
          · refine zA_brT' (c := x47 = 0) rfl rfl rfl c48 ?_
            exact zA_tr (L := [some (zrv x0), some (zrv x1), some (zI x2), none]) rfl rfl (zmS53_22 ih _ _ _ _ _ _ H)
        · cases H
          exact zA_callX (as := [zrv v39]) (st' := []) rfl rfl (zrcv_Q e43 c44) rfl (zmE10 _) rfl rfl rfl (zmS10 C)
      · refine zA_brT' (c := (zr h p41 i42 0) = x1) rfl rfl zIf_ane c45 ?_
        exact zA_tr (L := [some (zrv x0), some (zrv x1), some (zI x2), none]) rfl rfl (zmS53_22 ih _ _ _ _ _ _ H)
-- 53: ReleaseHouse.releaseUnderWay(LReleaseHouse$Artefact;)LReleaseHouse$Release;
def zm53 (x0 : zq) (x1 : zq) (h : zH) : zRs zq :=
  zm53_2 zN0 x0 x1 (0 : Int32) h
theorem zmS53 {x0 : zq} {x1 : zq} {h : zH} {r : zq ⊕ Nat} {h' : zH} (H : zm53 x0 x1 h = some (r, h')) : zAt 53 0 [some (zrv x0), some (zrv x1), none, none] [] h (zoA r) h' := by
  unfold zm53 at H
  refine zA_push rfl rfl zkk7 ?_
  refine zA_istn2 rfl rfl rfl (zset1 (L' := [some (zrv x0), some (zrv x1), some (zI (0 : Int32)), none]) rfl rfl (zpcV rfl (zcat_rv _))) ?_
  exact zA_tr (L := [some (zrv x0), some (zrv x1), some (zI (0 : Int32)), none]) rfl rfl (zmS53_2 zN0 _ _ _ _ _ _ H)
theorem zmE53 (x0 : zq) (x1 : zq) : zpad (zPr.2.1 53).1 (zil [zrv x0, zrv x1]) = [some (zrv x0), some (zrv x1), none, none] := by
  simp only [zil_A, zil_I, zil_F, zil_D, zil_N]
  rfl
-- 9: ReleaseHouse$Release.<init>(LReleaseHouse$Artefact;LReleaseHouse$Program;I)V
def zm9 (x0 : zq) (x1 : zq) (x2 : zq) (x3 : Int32) (h : zH) : zRs Unit :=
  znn x0 fun p21 i22 =>
  zob 5 x0 fun p25 i26 =>
  zlet (zsi h p25 i26 2 (0 : Int32)) fun h29 =>
  if (3 : Int32) < 0 ∨ 100000 < (3 : Int32).toNatClampNeg then none else
  zlet (znw h29 25 (3 : Int32).toNatClampNeg (3 : Int32).toNatClampNeg) fun h31 =>
  zlet (zsr h31 p25 i26 9 (some (25, zct h29 25))) fun h33 =>
  if (3 : Int32) < 0 ∨ 100000 < (3 : Int32).toNatClampNeg then none else
  zlet (znw h33 26 (3 : Int32).toNatClampNeg (3 : Int32).toNatClampNeg) fun h35 =>
  zlet (zsr h35 p25 i26 10 (some (26, zct h33 26))) fun h37 =>
  zlet (zsr h37 p25 i26 0 x1) fun h39 =>
  zlet (zsr h39 p25 i26 1 x2) fun h41 =>
  zlet (zsi h41 p25 i26 4 x3) fun h43 =>
  some (.inl (), h43)
theorem zmS9 {x0 : zq} {x1 : zq} {x2 : zq} {x3 : Int32} {h : zH} {r : Unit ⊕ Nat} {h' : zH} (H : zm9 x0 x1 x2 x3 h = some (r, h')) : zAt 9 0 [some (zrv x0), some (zrv x1), some (zrv x2), some (zI x3)] [] h (zoU r) h' := by
  unfold zm9 at H
  refine zA_aldn rfl rfl rfl ?_
  obtain ⟨p21, i22, e23, H⟩ := znn_e H
  refine zA_l0 rfl rfl rfl e23 ?_
  refine zA_aldn rfl rfl rfl ?_
  refine zA_push rfl rfl zkk7 ?_
  obtain ⟨p25, i26, e27, c28, H⟩ := zob_e H
  obtain ⟨h29, e30, H⟩ := zlet_e H
  refine zA_pf0 rfl rfl e27 c28 e30 ?_
  refine zA_aldn rfl rfl rfl ?_
  refine zA_push rfl rfl zkk3 ?_
  rcases zite_e H with ⟨_, H⟩ | ⟨ch31, H⟩
  · cases H
  obtain ⟨h31, e32, H⟩ := zlet_e H
  refine zA_newA rfl rfl (fun _ _ _ _ _ => rfl) ch31 e32 ?_
  obtain ⟨h33, e34, H⟩ := zlet_e H
  refine zA_pf3 rfl rfl e27 c28 e34 ?_
  refine zA_aldn rfl rfl rfl ?_
  refine zA_push rfl rfl zkk3 ?_
  rcases zite_e H with ⟨_, H⟩ | ⟨ch35, H⟩
  · cases H
  obtain ⟨h35, e36, H⟩ := zlet_e H
  refine zA_newA rfl rfl (fun _ _ _ _ _ => rfl) ch35 e36 ?_
  obtain ⟨h37, e38, H⟩ := zlet_e H
  refine zA_pf3 rfl rfl e27 c28 e38 ?_
  refine zA_aldn rfl rfl rfl ?_
  refine zA_aldn rfl rfl rfl ?_
  obtain ⟨h39, e40, H⟩ := zlet_e H
  refine zA_pf3 rfl rfl e27 c28 e40 ?_
  refine zA_aldn rfl rfl rfl ?_
  refine zA_aldn rfl rfl rfl ?_
  obtain ⟨h41, e42, H⟩ := zlet_e H
  refine zA_pf3 rfl rfl e27 c28 e42 ?_
  refine zA_aldn rfl rfl rfl ?_
  refine zA_ldn rfl rfl rfl ?_
  obtain ⟨h43, e44, H⟩ := zlet_e H
  refine zA_pf0 rfl rfl e27 c28 e44 ?_
  cases H
  exact zA_ret rfl rfl
theorem zmE9 (x0 : zq) (x1 : zq) (x2 : zq) (x3 : Int32) : zpad (zPr.2.1 9).1 (zil [zrv x0, zrv x1, zrv x2, zI x3]) = [some (zrv x0), some (zrv x1), some (zrv x2), some (zI x3)] := by
  simp only [zil_A, zil_I, zil_F, zil_D, zil_N]
  rfl
-- 52: ReleaseHouse.release(II)I
def zm52 (x0 : zq) (x1 : Int32) (x2 : Int32) (h : zH) : zRs Int32 :=
  zob 11 x0 fun p21 i22 =>
  zlz (zr h p21 i22 0) h fun v30 =>
  zb (zm130 x1 v30 h) fun _ h32 =>
  zlz (zr h32 p21 i22 1) h32 fun v38 =>
  zb (zm130 x2 v38 h32) fun _ h40 =>
  zlg (zr h40 p21 i22 0) x1 h40 fun v47 =>
  zob 0 v47 fun p49 i50 =>
  zlg (zr h40 p21 i22 1) x2 h40 fun v59 =>
  zob 4 v59 fun p61 i62 =>
  zlz (zr h40 p21 i22 2) h40 fun v70 =>
  if (20 : Int32) ≤ v70 then
    some (.inr 1, zro h40 1 6)
  else
    if (zi h40 p61 i62 3) = 0 then
      some (.inr 1, zro h40 1 6)
    else
      zb (zm53 x0 v47 h40) fun x75 h74 =>
      if x75 = none then
        zlet (zsi h74 p61 i62 4 (1 : Int32)) fun h77 =>
        zlet (znw h77 5 0 11) fun h79 =>
        zob 5 (some (5, zct h77 5)) fun p81 i82 =>
        zb2 (zm9 (some (5, zct h77 5)) v47 v59 (zi h79 p21 i22 11) h79) fun _ h85 =>
        znn (zr h77 p21 i22 2) fun p86 i87 =>
        znn (some (5, zct h77 5)) fun p93 i94 =>
        zif ((ztg p86 == 9 && ztg p93 == 0 && (zkc p93 == zel p86 && zelB h85 p86 i87)) = true) <|
        zif (zi h85 p86 i87 1 = 1 ∧ zln h85 p86 i87 < 33) <|
        zlet (zladd h85 p86 i87 p93 i94) fun h91 =>
        zlz (zr h91 p21 i22 2) h91 fun v101 =>
        some (.inl (v101 - (1 : Int32)), h91)
      else
        some (.inr 1, zro h74 1 6)
theorem zmS52 {x0 : zq} {x1 : Int32} {x2 : Int32} {h : zH} {r : Int32 ⊕ Nat} {h' : zH} (H : zm52 x0 x1 x2 h = some (r, h')) : zAt 52 0 [some (zrv x0), some (zI x1), some (zI x2), none, none] [] h (zoI r) h' := by
  unfold zm52 at H
  refine zA_ldn rfl rfl rfl ?_
  refine zA_aldn rfl rfl rfl ?_
  obtain ⟨p21, i22, e23, c24, H⟩ := zob_e H
  refine zA_gf3 rfl rfl e23 c24 ?_
  obtain ⟨p25, i26, v30, e27, c28, c29, e31, H⟩ := zlz_e H
  refine zA_l2 rfl rfl rfl e27 c28 c29 e31 ?_
  rcases zb_e H with ⟨u105, h32, C, H⟩ | ⟨E, h32, C, H⟩
  · refine zA_callU (as := [zI x1, zI v30]) (st' := []) rfl rfl rfl rfl rfl (zmE130 _ _) rfl (zmS130 C) ?_
    refine zA_ldn rfl rfl rfl ?_
    refine zA_aldn rfl rfl rfl ?_
    refine zA_gf3 rfl rfl e23 c24 ?_
    obtain ⟨p33, i34, v38, e35, c36, c37, e39, H⟩ := zlz_e H
    refine zA_l2 rfl rfl rfl e35 c36 c37 e39 ?_
    rcases zb_e H with ⟨u104, h40, C, H⟩ | ⟨E, h40, C, H⟩
    · refine zA_callU (as := [zI x2, zI v38]) (st' := []) rfl rfl rfl rfl rfl (zmE130 _ _) rfl (zmS130 C) ?_
      refine zA_aldn rfl rfl rfl ?_
      refine zA_gf3 rfl rfl e23 c24 ?_
      refine zA_ldn rfl rfl rfl ?_
      obtain ⟨p41, i42, v47, e43, c44, c45, c46, e48, H⟩ := zlg_e H
      refine zA_l3 rfl rfl rfl e43 c44 c45 c46 e48 ?_
      obtain ⟨p49, i50, e51, c52, H⟩ := zob_e H
      refine zA_cast rfl rfl e51 c52 ?_
      refine zA_astn2 rfl rfl rfl (zset1 (L' := [some (zrv x0), some (zI x1), some (zI x2), some (zrv v47), none]) (zcat_rv _) rfl (zpcV rfl rfl)) ?_
      refine zA_aldn rfl rfl rfl ?_
      refine zA_gf3 rfl rfl e23 c24 ?_
      refine zA_ldn rfl rfl rfl ?_
      obtain ⟨p53, i54, v59, e55, c56, c57, c58, e60, H⟩ := zlg_e H
      refine zA_l3 rfl rfl rfl e55 c56 c57 c58 e60 ?_
      obtain ⟨p61, i62, e63, c64, H⟩ := zob_e H
      refine zA_cast rfl rfl e63 c64 ?_
      refine zA_ast2 rfl rfl rfl (zset1 (L' := [some (zrv x0), some (zI x1), some (zI x2), some (zrv v47), some (zrv v59)]) (zcat_rv _) rfl (zpcV rfl (zcat_rv _))) ?_
      refine zA_aldn rfl rfl rfl ?_
      refine zA_gf3 rfl rfl e23 c24 ?_
      obtain ⟨p65, i66, v70, e67, c68, c69, e71, H⟩ := zlz_e H
      refine zA_l2 rfl rfl rfl e67 c68 c69 e71 ?_
      refine zA_push rfl rfl zkk23 ?_
      rcases zite_e H with ⟨c72, H⟩ | ⟨c72, H⟩
      · refine zA_brT (c := (20 : Int32) ≤ v70) rfl rfl rfl c72 ?_
        refine zA_tr (L := [none, none, none, none, none]) rfl rfl ?_
        cases H
        exact zA_thr rfl rfl
      · refine zA_brF (c := (20 : Int32) ≤ v70) rfl rfl rfl c72 ?_
        refine zA_ald rfl rfl rfl ?_
        refine zA_gf0 rfl rfl (Or.inl rfl) e63 c64 ?_
        rcases zite_e H with ⟨c73, H⟩ | ⟨c73, H⟩
        · refine zA_brT (c := (zi h40 p61 i62 3) = 0) rfl rfl rfl c73 ?_
          refine zA_tr (L := [none, none, none, none, none]) rfl rfl ?_
          cases H
          exact zA_thr rfl rfl
        · refine zA_brF (c := (zi h40 p61 i62 3) = 0) rfl rfl rfl c73 ?_
          refine zA_aldn rfl rfl rfl ?_
          refine zA_aldn rfl rfl rfl ?_
          rcases zb_e H with ⟨x75, h74, C, H⟩ | ⟨E, h74, C, H⟩
          · refine zA_callV (as := [zrv x0, zrv v47]) (st' := []) rfl rfl rfl (zrcv_Q e23 c24) rfl (zmE53 _ _) rfl (zmS53 C) ?_
            rcases zite_e H with ⟨c76, H⟩ | ⟨c76, H⟩
            · refine zA_brT (c := x75 = none) rfl rfl zIf_null c76 ?_
              refine zA_tr (L := [some (zrv x0), none, none, some (zrv v47), some (zrv v59)]) rfl rfl ?_
              refine zA_ald rfl rfl rfl ?_
              refine zA_push rfl rfl zkk5 ?_
              obtain ⟨h77, e78, H⟩ := zlet_e H
              refine zA_pf1 rfl rfl e63 c64 (by decide) e78 ?_
              refine zA_aldn rfl rfl rfl ?_
              refine zA_gf3 rfl rfl e23 c24 ?_
              obtain ⟨h79, e80, H⟩ := zlet_e H
              refine zA_new (n := 11) rfl rfl (fun _ _ _ _ => rfl) e80 ?_
              refine zA_dup rfl rfl (zcat_rv _) ?_
              refine zA_aldn rfl rfl rfl ?_
              refine zA_ald rfl rfl rfl ?_
              refine zA_aldn rfl rfl rfl ?_
              refine zA_gf0 rfl rfl (Or.inl rfl) e23 c24 ?_
              obtain ⟨p81, i82, e83, c84, H⟩ := zob_e H
              obtain ⟨u103, h85, C, H⟩ := zb2_e H
              refine zA_callU (as := [zrv (some (5, zct h77 5)), zrv v47, zrv v59, zI (zi h79 p21 i22 11)]) (st' := [zrv (some (5, zct h77 5)), zrv (zr h77 p21 i22 2)]) rfl rfl rfl (zrcv_Q e83 c84) rfl (zmE9 _ _ _ _) rfl (zmS9 C) ?_
              obtain ⟨p86, i87, e88, H⟩ := znn_e H
              obtain ⟨p93, i94, e95, H⟩ := znn_e H
              obtain ⟨c89, H⟩ := zif_e H
              obtain ⟨c90, H⟩ := zif_e H
              obtain ⟨h91, e92, H⟩ := zlet_e H
              refine zA_l4 rfl rfl rfl e88 e95 c89 c90 e92 ?_
              refine zA_pop rfl rfl rfl ?_
              refine zA_aldn rfl rfl rfl ?_
              refine zA_gf3 rfl rfl e23 c24 ?_
              obtain ⟨p96, i97, v101, e98, c99, c100, e102, H⟩ := zlz_e H
              refine zA_l2 rfl rfl rfl e98 c99 c100 e102 ?_
              refine zA_push rfl rfl zkk5 ?_
              refine zA_st (st' := [zI (v101 - (1 : Int32))]) rfl rfl rfl rfl ?_
              cases H
              exact zA_ret rfl rfl
            · refine zA_brF (c := x75 = none) rfl rfl zIf_null c76 ?_
              refine zA_tr (L := [none, none, none, none, none]) rfl rfl ?_
              cases H
              exact zA_thr rfl rfl
          · cases H
            exact zA_callX (as := [zrv x0, zrv v47]) (st' := []) rfl rfl (zrcv_Q e23 c24) rfl (zmE53 _ _) rfl rfl rfl (zmS53 C)
    · cases H
      exact zA_callX (as := [zI x2, zI v38]) (st' := []) rfl rfl rfl rfl (zmE130 _ _) rfl rfl rfl (zmS130 C)
  · cases H
    exact zA_callX (as := [zI x1, zI v30]) (st' := []) rfl rfl rfl rfl (zmE130 _ _) rfl rfl rfl (zmS130 C)
theorem zmE52 (x0 : zq) (x1 : Int32) (x2 : Int32) : zpad (zPr.2.1 52).1 (zil [zrv x0, zI x1, zI x2]) = [some (zrv x0), some (zI x1), some (zI x2), none, none] := by
  simp only [zil_A, zil_I, zil_F, zil_D, zil_N]
  rfl
-- 61: ReleaseHouse.state(I)I
def zm61 (x0 : zq) (x1 : Int32) (h : zH) : zRs Int32 :=
  zob 11 x0 fun p21 i22 =>
  zlz (zr h p21 i22 2) h fun v30 =>
  zb (zm130 x1 v30 h) fun _ h32 =>
  zlg (zr h32 p21 i22 2) x1 h32 fun v39 =>
  zob 5 v39 fun p41 i42 =>
  some (.inl (zi h32 p41 i42 2), h32)
theorem zmS61 {x0 : zq} {x1 : Int32} {h : zH} {r : Int32 ⊕ Nat} {h' : zH} (H : zm61 x0 x1 h = some (r, h')) : zAt 61 0 [some (zrv x0), some (zI x1)] [] h (zoI r) h' := by
  unfold zm61 at H
  refine zA_ldn rfl rfl rfl ?_
  refine zA_aldn rfl rfl rfl ?_
  obtain ⟨p21, i22, e23, c24, H⟩ := zob_e H
  refine zA_gf3 rfl rfl e23 c24 ?_
  obtain ⟨p25, i26, v30, e27, c28, c29, e31, H⟩ := zlz_e H
  refine zA_l2 rfl rfl rfl e27 c28 c29 e31 ?_
  rcases zb_e H with ⟨u45, h32, C, H⟩ | ⟨E, h32, C, H⟩
  · refine zA_callU (as := [zI x1, zI v30]) (st' := []) rfl rfl rfl rfl rfl (zmE130 _ _) rfl (zmS130 C) ?_
    refine zA_aldn rfl rfl rfl ?_
    refine zA_gf3 rfl rfl e23 c24 ?_
    refine zA_ldn rfl rfl rfl ?_
    obtain ⟨p33, i34, v39, e35, c36, c37, c38, e40, H⟩ := zlg_e H
    refine zA_l3 rfl rfl rfl e35 c36 c37 c38 e40 ?_
    obtain ⟨p41, i42, e43, c44, H⟩ := zob_e H
    refine zA_cast rfl rfl e43 c44 ?_
    refine zA_gf0 rfl rfl (Or.inl rfl) e43 c44 ?_
    cases H
    exact zA_ret rfl rfl
  · cases H
    exact zA_callX (as := [zI x1, zI v30]) (st' := []) rfl rfl rfl rfl (zmE130 _ _) rfl rfl rfl (zmS130 C)
theorem zmE61 (x0 : zq) (x1 : Int32) : zpad (zPr.2.1 61).1 (zil [zrv x0, zI x1]) = [some (zrv x0), some (zI x1)] := by
  simp only [zil_A, zil_I, zil_F, zil_D, zil_N]
  rfl
-- 62: ReleaseHouse.at(I)I
def zm62 (x0 : zq) (x1 : Int32) (h : zH) : zRs Int32 :=
  zob 11 x0 fun p21 i22 =>
  zlz (zr h p21 i22 2) h fun v30 =>
  zb (zm130 x1 v30 h) fun _ h32 =>
  zlg (zr h32 p21 i22 2) x1 h32 fun v39 =>
  zob 5 v39 fun p41 i42 =>
  some (.inl (zi h32 p41 i42 3), h32)
theorem zmS62 {x0 : zq} {x1 : Int32} {h : zH} {r : Int32 ⊕ Nat} {h' : zH} (H : zm62 x0 x1 h = some (r, h')) : zAt 62 0 [some (zrv x0), some (zI x1)] [] h (zoI r) h' := by
  unfold zm62 at H
  refine zA_ldn rfl rfl rfl ?_
  refine zA_aldn rfl rfl rfl ?_
  obtain ⟨p21, i22, e23, c24, H⟩ := zob_e H
  refine zA_gf3 rfl rfl e23 c24 ?_
  obtain ⟨p25, i26, v30, e27, c28, c29, e31, H⟩ := zlz_e H
  refine zA_l2 rfl rfl rfl e27 c28 c29 e31 ?_
  rcases zb_e H with ⟨u45, h32, C, H⟩ | ⟨E, h32, C, H⟩
  · refine zA_callU (as := [zI x1, zI v30]) (st' := []) rfl rfl rfl rfl rfl (zmE130 _ _) rfl (zmS130 C) ?_
    refine zA_aldn rfl rfl rfl ?_
    refine zA_gf3 rfl rfl e23 c24 ?_
    refine zA_ldn rfl rfl rfl ?_
    obtain ⟨p33, i34, v39, e35, c36, c37, c38, e40, H⟩ := zlg_e H
    refine zA_l3 rfl rfl rfl e35 c36 c37 c38 e40 ?_
    obtain ⟨p41, i42, e43, c44, H⟩ := zob_e H
    refine zA_cast rfl rfl e43 c44 ?_
    refine zA_gf0 rfl rfl (Or.inl rfl) e43 c44 ?_
    cases H
    exact zA_ret rfl rfl
  · cases H
    exact zA_callX (as := [zI x1, zI v30]) (st' := []) rfl rfl rfl rfl (zmE130 _ _) rfl rfl rfl (zmS130 C)
theorem zmE62 (x0 : zq) (x1 : Int32) : zpad (zPr.2.1 62).1 (zil [zrv x0, zI x1]) = [some (zrv x0), some (zI x1)] := by
  simp only [zil_A, zil_I, zil_F, zil_D, zil_N]
  rfl
def zm26_36 (k2 : zq → Int32 → zH → zRs Unit) (x0 : zq) (x1 : Int32) (h : zH) : zRs Unit :=
  zlet (x1 + (1 : Int32)) fun x21 =>
  k2 x0 x21 h
theorem zmS26_36 {k2 : zq → Int32 → zH → zRs Unit} (hk2 : ∀ (x0 : zq) (x1 : Int32) (h : zH) (r : Unit ⊕ Nat) (h' : zH), k2 x0 x1 h = some (r, h') → zAt 26 2 [some (zrv x0), some (zI x1), none] [] h (zoU r) h') : ∀ (x0 : zq) (x1 : Int32) (h : zH) (r : Unit ⊕ Nat) (h' : zH), zm26_36 k2 x0 x1 h = some (r, h') → zAt 26 36 [some (zrv x0), some (zI x1), none] [] h (zoU r) h' := by
  intro x0 x1 h r h' H
  unfold zm26_36 at H
  obtain ⟨x21, e22, H⟩ := zlet_e H
  refine zA_inc rfl rfl rfl (e22.trans (congrArg (_ + ·) zkk8)) (zset1 (L' := [some (zrv x0), some (zI x21), none]) rfl rfl (zpcV rfl (zcat_rv _))) ?_
  refine zA_go rfl rfl ?_
  exact zA_tr (L := [some (zrv x0), some (zI x21), none]) rfl rfl (hk2 _ _ _ _ _ H)
def zm26_23 (k2 : zq → Int32 → zH → zRs Unit) (x0 : zq) (x1 : Int32) (x2 : zq) (h : zH) : zRs Unit :=
  zob 9 x2 fun p21 i22 =>
  if (zr h p21 i22 1) = none then
    zm26_36 k2 x0 x1 h
  else
    zob 8 x0 fun p26 i27 =>
    zob 0 (zr h p21 i22 1) fun p30 i31 =>
    zri (zr h p26 i27 1) (zi h p30 i31 7) h fun v41 =>
    zar 1 (zr h p26 i27 1) (zi h p30 i31 7) h fun p43 i44 j45 =>
    zlet (zsi h p43 i44 j45 (v41 + (1 : Int32))) fun h50 =>
    zm26_36 k2 x0 x1 h50
theorem zmS26_23 {k2 : zq → Int32 → zH → zRs Unit} (hk2 : ∀ (x0 : zq) (x1 : Int32) (h : zH) (r : Unit ⊕ Nat) (h' : zH), k2 x0 x1 h = some (r, h') → zAt 26 2 [some (zrv x0), some (zI x1), none] [] h (zoU r) h') : ∀ (x0 : zq) (x1 : Int32) (x2 : zq) (h : zH) (r : Unit ⊕ Nat) (h' : zH), zm26_23 k2 x0 x1 x2 h = some (r, h') → zAt 26 23 [some (zrv x0), some (zI x1), some (zrv x2)] [] h (zoU r) h' := by
  intro x0 x1 x2 h r h' H
  unfold zm26_23 at H
  refine zA_aldn rfl rfl rfl ?_
  obtain ⟨p21, i22, e23, c24, H⟩ := zob_e H
  refine zA_gf3 rfl rfl e23 c24 ?_
  rcases zite_e H with ⟨c25, H⟩ | ⟨c25, H⟩
  · refine zA_brT (c := (zr h p21 i22 1) = none) rfl rfl zIf_null c25 ?_
    exact zA_tr (L := [some (zrv x0), some (zI x1), none]) rfl rfl (zmS26_36 hk2 _ _ _ _ _ H)
  · refine zA_brF (c := (zr h p21 i22 1) = none) rfl rfl zIf_null c25 ?_
    refine zA_aldn rfl rfl rfl ?_
    obtain ⟨p26, i27, e28, c29, H⟩ := zob_e H
    refine zA_gf3 rfl rfl e28 c29 ?_
    refine zA_aldn rfl rfl rfl ?_
    refine zA_gf3 rfl rfl e23 c24 ?_
    obtain ⟨p30, i31, e32, c33, H⟩ := zob_e H
    refine zA_gf0 rfl rfl (Or.inl rfl) e32 c33 ?_
    refine zA_dup2 rfl rfl rfl (zcat_rv _) ?_
    obtain ⟨p34, i35, j36, v41, e37, c38, c39, e40, e42, H⟩ := zri_e H
    refine zA_ial rfl rfl e37 c38 c39 e40 e42 ?_
    refine zA_push rfl rfl zkk5 ?_
    refine zA_st (st' := [zI (v41 + (1 : Int32)), zI (zi h p30 i31 7), zrv (zr h p26 i27 1)]) rfl rfl rfl rfl ?_
    obtain ⟨p43, i44, j45, e46, c47, c48, e49, H⟩ := zar_e H
    obtain ⟨h50, e51, H⟩ := zlet_e H
    refine zA_ias rfl rfl e46 c47 c48 e49 e51 ?_
    exact zA_tr (L := [some (zrv x0), some (zI x1), none]) rfl rfl (zmS26_36 hk2 _ _ _ _ _ H)
def zm26_2 (k38 : zq → zH → zRs Unit) : Nat → zq → Int32 → zH → zRs Unit
  | 0, _, _, _ => none
  | n + 1, x0, x1, h =>
    if (3 : Int32) ≤ x1 then
      k38 x0 h
    else
      zob 8 x0 fun p22 i23 =>
      zra (zr h p22 i23 0) x1 h fun v33 =>
      zob 9 v33 fun p35 i36 =>
      if (zr h p35 i36 0) = none then
        zm26_23 (zm26_2 k38 n) x0 x1 v33 h
      else
        zob 0 (zr h p35 i36 0) fun p40 i41 =>
        zri (zr h p22 i23 1) (zi h p40 i41 7) h fun v51 =>
        zar 1 (zr h p22 i23 1) (zi h p40 i41 7) h fun p53 i54 j55 =>
        zlet (zsi h p53 i54 j55 (v51 + (1 : Int32))) fun h60 =>
        zm26_23 (zm26_2 k38 n) x0 x1 v33 h60
theorem zmS26_2 {k38 : zq → zH → zRs Unit} (hk38 : ∀ (x0 : zq) (h : zH) (r : Unit ⊕ Nat) (h' : zH), k38 x0 h = some (r, h') → zAt 26 38 [some (zrv x0), none, none] [] h (zoU r) h') : ∀ (n : Nat) (x0 : zq) (x1 : Int32) (h : zH) (r : Unit ⊕ Nat) (h' : zH), zm26_2 k38 n x0 x1 h = some (r, h') → zAt 26 2 [some (zrv x0), some (zI x1), none] [] h (zoU r) h' := by
  intro n
  induction n with
  | zero => intro x0 x1 h r h' H; cases H
  | succ n ih =>
    intro x0 x1 h r h' H
    unfold zm26_2 at H
    refine zA_ldn rfl rfl rfl ?_
    refine zA_push rfl rfl zkk3 ?_
    rcases zite_e H with ⟨c21, H⟩ | ⟨c21, H⟩
    · refine zA_brT (c := (3 : Int32) ≤ x1) rfl rfl rfl c21 ?_
      exact zA_tr (L := [some (zrv x0), none, none]) rfl rfl (hk38 _ _ _ _ H)
    · refine zA_brF (c := (3 : Int32) ≤ x1) rfl rfl rfl c21 ?_
      refine zA_aldn rfl rfl rfl ?_
      obtain ⟨p22, i23, e24, c25, H⟩ := zob_e H
      refine zA_gf3 rfl rfl e24 c25 ?_
      refine zA_ldn rfl rfl rfl ?_
      obtain ⟨p26, i27, j28, v33, e29, c30, c31, e32, e34, H⟩ := zra_e H
      refine zA_aal rfl rfl e29 c30 c31 e32 e34 ?_
      refine zA_astn2 rfl rfl rfl (zset1 (L' := [some (zrv x0), some (zI x1), some (zrv v33)]) (zcat_rv _) rfl (zpcV rfl rfl)) ?_
      refine zA_aldn rfl rfl rfl ?_
      obtain ⟨p35, i36, e37, c38, H⟩ := zob_e H
      refine zA_gf3 rfl rfl e37 c38 ?_
      rcases zite_e H with ⟨c39, H⟩ | ⟨c39, H⟩
      · refine zA_brT (c := (zr h p35 i36 0) = none) rfl rfl zIf_null c39 ?_
        exact zA_tr (L := [some (zrv x0), some (zI x1), some (zrv v33)]) rfl rfl (zmS26_23 ih _ _ _ _ _ _ H)
      · refine zA_brF (c := (zr h p35 i36 0) = none) rfl rfl zIf_null c39 ?_
        refine zA_aldn rfl rfl rfl ?_
        refine zA_gf3 rfl rfl e24 c25 ?_
        refine zA_aldn rfl rfl rfl ?_
        refine zA_gf3 rfl rfl e37 c38 ?_
        obtain ⟨p40, i41, e42, c43, H⟩ := zob_e H
        refine zA_gf0 rfl rfl (Or.inl rfl) e42 c43 ?_
        refine zA_dup2 rfl rfl rfl (zcat_rv _) ?_
        obtain ⟨p44, i45, j46, v51, e47, c48, c49, e50, e52, H⟩ := zri_e H
        refine zA_ial rfl rfl e47 c48 c49 e50 e52 ?_
        refine zA_push rfl rfl zkk5 ?_
        refine zA_st (st' := [zI (v51 + (1 : Int32)), zI (zi h p40 i41 7), zrv (zr h p22 i23 1)]) rfl rfl rfl rfl ?_
        obtain ⟨p53, i54, j55, e56, c57, c58, e59, H⟩ := zar_e H
        obtain ⟨h60, e61, H⟩ := zlet_e H
        refine zA_ias rfl rfl e56 c57 c58 e59 e61 ?_
        exact zA_tr (L := [some (zrv x0), some (zI x1), some (zrv v33)]) rfl rfl (zmS26_23 ih _ _ _ _ _ _ H)
def zm26_38 (x0 : zq) (h : zH) : zRs Unit :=
  zob 8 x0 fun p21 i22 =>
  if (zi h p21 i22 4) = (-1 : Int32) then
    some (.inl (), h)
  else
    if (zi h p21 i22 5) = (-1 : Int32) then
      some (.inl (), h)
    else
      zri (zr h p21 i22 1) (zi h p21 i22 4) h fun v34 =>
      zlet (if v34 < (5 : Int32) then v34 else (5 : Int32)) fun x36 =>
      zri (zr h p21 i22 1) (zi h p21 i22 4) h fun v45 =>
      zar 1 (zr h p21 i22 1) (zi h p21 i22 4) h fun p47 i48 j49 =>
      zlet (zsi h p47 i48 j49 (v45 - x36)) fun h54 =>
      zri (zr h54 p21 i22 1) (zi h54 p21 i22 5) h54 fun v63 =>
      zar 1 (zr h54 p21 i22 1) (zi h54 p21 i22 5) h54 fun p65 i66 j67 =>
      zlet (zsi h54 p65 i66 j67 (v63 + x36)) fun h72 =>
      zlet (zsi h72 p21 i22 6 ((zi h72 p21 i22 6) + x36)) fun h74 =>
      some (.inl (), h74)
theorem zmS26_38 : ∀ (x0 : zq) (h : zH) (r : Unit ⊕ Nat) (h' : zH), zm26_38 x0 h = some (r, h') → zAt 26 38 [some (zrv x0), none, none] [] h (zoU r) h' := by
  intro x0 h r h' H
  unfold zm26_38 at H
  refine zA_aldn rfl rfl rfl ?_
  obtain ⟨p21, i22, e23, c24, H⟩ := zob_e H
  refine zA_gf0 rfl rfl (Or.inl rfl) e23 c24 ?_
  refine zA_push rfl rfl zkk6 ?_
  rcases zite_e H with ⟨c25, H⟩ | ⟨c25, H⟩
  · refine zA_brT (c := (zi h p21 i22 4) = (-1 : Int32)) rfl rfl rfl c25 ?_
    refine zA_tr (L := [none, none, none]) rfl rfl ?_
    cases H
    exact zA_ret rfl rfl
  · refine zA_brF (c := (zi h p21 i22 4) = (-1 : Int32)) rfl rfl rfl c25 ?_
    refine zA_aldn rfl rfl rfl ?_
    refine zA_gf0 rfl rfl (Or.inl rfl) e23 c24 ?_
    refine zA_push rfl rfl zkk6 ?_
    rcases zite_e H with ⟨c26, H⟩ | ⟨c26, H⟩
    · refine zA_brT (c := (zi h p21 i22 5) = (-1 : Int32)) rfl rfl rfl c26 ?_
      refine zA_tr (L := [none, none, none]) rfl rfl ?_
      cases H
      exact zA_ret rfl rfl
    · refine zA_brF (c := (zi h p21 i22 5) = (-1 : Int32)) rfl rfl rfl c26 ?_
      refine zA_push rfl rfl zkk16 ?_
      refine zA_aldn rfl rfl rfl ?_
      refine zA_gf3 rfl rfl e23 c24 ?_
      refine zA_aldn rfl rfl rfl ?_
      refine zA_gf0 rfl rfl (Or.inl rfl) e23 c24 ?_
      obtain ⟨p27, i28, j29, v34, e30, c31, c32, e33, e35, H⟩ := zri_e H
      refine zA_ial rfl rfl e30 c31 c32 e33 e35 ?_
      refine zA_l6 rfl rfl rfl ?_
      obtain ⟨x36, e37, H⟩ := zlet_e H
      refine zA_istn2 rfl rfl e37 (zset1 (L' := [some (zrv x0), some (zI x36), none]) rfl rfl (zpcV rfl (zcat_rv _))) ?_
      refine zA_aldn rfl rfl rfl ?_
      refine zA_gf3 rfl rfl e23 c24 ?_
      refine zA_aldn rfl rfl rfl ?_
      refine zA_gf0 rfl rfl (Or.inl rfl) e23 c24 ?_
      refine zA_dup2 rfl rfl rfl (zcat_rv _) ?_
      obtain ⟨p38, i39, j40, v45, e41, c42, c43, e44, e46, H⟩ := zri_e H
      refine zA_ial rfl rfl e41 c42 c43 e44 e46 ?_
      refine zA_ldn rfl rfl rfl ?_
      refine zA_st (st' := [zI (v45 - x36), zI (zi h p21 i22 4), zrv (zr h p21 i22 1)]) rfl rfl rfl rfl ?_
      obtain ⟨p47, i48, j49, e50, c51, c52, e53, H⟩ := zar_e H
      obtain ⟨h54, e55, H⟩ := zlet_e H
      refine zA_ias rfl rfl e50 c51 c52 e53 e55 ?_
      refine zA_aldn rfl rfl rfl ?_
      refine zA_gf3 rfl rfl e23 c24 ?_
      refine zA_aldn rfl rfl rfl ?_
      refine zA_gf0 rfl rfl (Or.inl rfl) e23 c24 ?_
      refine zA_dup2 rfl rfl rfl (zcat_rv _) ?_
      obtain ⟨p56, i57, j58, v63, e59, c60, c61, e62, e64, H⟩ := zri_e H
      refine zA_ial rfl rfl e59 c60 c61 e62 e64 ?_
      refine zA_ldn rfl rfl rfl ?_
      refine zA_st (st' := [zI (v63 + x36), zI (zi h54 p21 i22 5), zrv (zr h54 p21 i22 1)]) rfl rfl rfl rfl ?_
      obtain ⟨p65, i66, j67, e68, c69, c70, e71, H⟩ := zar_e H
      obtain ⟨h72, e73, H⟩ := zlet_e H
      refine zA_ias rfl rfl e68 c69 c70 e71 e73 ?_
      refine zA_aldn rfl rfl rfl ?_
      refine zA_dup rfl rfl (zcat_rv _) ?_
      refine zA_gf0 rfl rfl (Or.inl rfl) e23 c24 ?_
      refine zA_ldn rfl rfl rfl ?_
      refine zA_st (st' := [zI ((zi h72 p21 i22 6) + x36), zrv x0]) rfl rfl rfl rfl ?_
      obtain ⟨h74, e75, H⟩ := zlet_e H
      refine zA_pf0 rfl rfl e23 c24 e75 ?_
      refine zA_tr (L := [none, none, none]) rfl rfl ?_
      cases H
      exact zA_ret rfl rfl
-- 26: ReleaseHouse$Service.growData()V
def zm26 (x0 : zq) (h : zH) : zRs Unit :=
  zm26_2 (zm26_38) zN0 x0 (0 : Int32) h
theorem zmS26 {x0 : zq} {h : zH} {r : Unit ⊕ Nat} {h' : zH} (H : zm26 x0 h = some (r, h')) : zAt 26 0 [some (zrv x0), none, none] [] h (zoU r) h' := by
  unfold zm26 at H
  refine zA_push rfl rfl zkk7 ?_
  refine zA_istn2 rfl rfl rfl (zset1 (L' := [some (zrv x0), some (zI (0 : Int32)), none]) rfl rfl (zpcV rfl (zcat_rv _))) ?_
  exact zA_tr (L := [some (zrv x0), some (zI (0 : Int32)), none]) rfl rfl (zmS26_2 (zmS26_38) zN0 _ _ _ _ _ H)
theorem zmE26 (x0 : zq) : zpad (zPr.2.1 26).1 (zil [zrv x0]) = [some (zrv x0), none, none] := by
  simp only [zil_A, zil_I, zil_F, zil_D, zil_N]
  rfl
-- 12: ReleaseHouse$Release.kindNow()I
def zm12 (x0 : zq) (h : zH) : zRs Int32 :=
  zob 5 x0 fun p21 i22 =>
  zob 4 (zr h p21 i22 1) fun p25 i26 =>
  if (zi h p25 i26 3) ≤ (zi h p21 i22 3) then
    some (.inl (-1 : Int32), h)
  else
    zob 4 (zr h p21 i22 1) fun p30 i31 =>
    zri (zr h p30 i31 0) (zi h p21 i22 3) h fun v41 =>
    some (.inl v41, h)
theorem zmS12 {x0 : zq} {h : zH} {r : Int32 ⊕ Nat} {h' : zH} (H : zm12 x0 h = some (r, h')) : zAt 12 0 [some (zrv x0)] [] h (zoI r) h' := by
  unfold zm12 at H
  refine zA_aldn rfl rfl rfl ?_
  obtain ⟨p21, i22, e23, c24, H⟩ := zob_e H
  refine zA_gf0 rfl rfl (Or.inl rfl) e23 c24 ?_
  refine zA_aldn rfl rfl rfl ?_
  refine zA_gf3 rfl rfl e23 c24 ?_
  obtain ⟨p25, i26, e27, c28, H⟩ := zob_e H
  refine zA_gf0 rfl rfl (Or.inl rfl) e27 c28 ?_
  rcases zite_e H with ⟨c29, H⟩ | ⟨c29, H⟩
  · refine zA_brT (c := (zi h p25 i26 3) ≤ (zi h p21 i22 3)) rfl rfl rfl c29 ?_
    refine zA_tr (L := [none]) rfl rfl ?_
    refine zA_push rfl rfl zkk6 ?_
    cases H
    exact zA_ret rfl rfl
  · refine zA_brF (c := (zi h p25 i26 3) ≤ (zi h p21 i22 3)) rfl rfl rfl c29 ?_
    refine zA_aldn rfl rfl rfl ?_
    refine zA_gf3 rfl rfl e23 c24 ?_
    obtain ⟨p30, i31, e32, c33, H⟩ := zob_e H
    refine zA_gf3 rfl rfl e32 c33 ?_
    refine zA_aldn rfl rfl rfl ?_
    refine zA_gf0 rfl rfl (Or.inl rfl) e23 c24 ?_
    obtain ⟨p34, i35, j36, v41, e37, c38, c39, e40, e42, H⟩ := zri_e H
    refine zA_ial rfl rfl e37 c38 c39 e40 e42 ?_
    refine zA_go rfl rfl ?_
    refine zA_tr (L := [none]) rfl rfl ?_
    cases H
    exact zA_ret rfl rfl
theorem zmE12 (x0 : zq) : zpad (zPr.2.1 12).1 (zil [zrv x0]) = [some (zrv x0)] := by
  simp only [zil_A, zil_I, zil_F, zil_D, zil_N]
  rfl
-- 75: ReleaseHouse.leaveWith(LReleaseHouse$Train;)V
def zm75 (x0 : zq) (x1 : zq) (h : zH) : zRs Unit :=
  none
theorem zmS75 {x0 : zq} {x1 : zq} {h : zH} {r : Unit ⊕ Nat} {h' : zH} (H : zm75 x0 x1 h = some (r, h')) : zAt 75 0 [some (zrv x0), some (zrv x1), none, none] [] h (zoU r) h' := by
  unfold zm75 at H
  refine zA_aldn rfl rfl rfl ?_
  refine zA_push rfl rfl zkk7 ?_
  cases H
theorem zmE75 (x0 : zq) (x1 : zq) : zpad (zPr.2.1 75).1 (zil [zrv x0, zrv x1]) = [some (zrv x0), some (zrv x1), none, none] := by
  simp only [zil_A, zil_I, zil_F, zil_D, zil_N]
  rfl
-- 74: ReleaseHouse.leaveWithTrains()V
def zm74 (x0 : zq) (h : zH) : zRs Unit :=
  zob 11 x0 fun p21 i22 =>
  zlz (zr h p21 i22 4) h fun v30 =>
  if v30 ≤ (0 : Int32) then
    some (.inl (), h)
  else
    zlg (zr h p21 i22 4) (0 : Int32) h fun v39 =>
    none
theorem zmS74 {x0 : zq} {h : zH} {r : Unit ⊕ Nat} {h' : zH} (H : zm74 x0 h = some (r, h')) : zAt 74 0 [some (zrv x0), none, none] [] h (zoU r) h' := by
  unfold zm74 at H
  refine zA_push rfl rfl zkk7 ?_
  refine zA_istn2 rfl rfl rfl (zset1 (L' := [some (zrv x0), some (zI (0 : Int32)), none]) rfl rfl (zpcV rfl (zcat_rv _))) ?_
  refine zA_ldn rfl rfl rfl ?_
  refine zA_aldn rfl rfl rfl ?_
  obtain ⟨p21, i22, e23, c24, H⟩ := zob_e H
  refine zA_gf3 rfl rfl e23 c24 ?_
  obtain ⟨p25, i26, v30, e27, c28, c29, e31, H⟩ := zlz_e H
  refine zA_l2 rfl rfl rfl e27 c28 c29 e31 ?_
  rcases zite_e H with ⟨c32, H⟩ | ⟨c32, H⟩
  · refine zA_brT (c := v30 ≤ (0 : Int32)) rfl rfl rfl c32 ?_
    refine zA_tr (L := [none, none, none]) rfl rfl ?_
    cases H
    exact zA_ret rfl rfl
  · refine zA_brF (c := v30 ≤ (0 : Int32)) rfl rfl rfl c32 ?_
    refine zA_aldn rfl rfl rfl ?_
    refine zA_gf3 rfl rfl e23 c24 ?_
    refine zA_ldn rfl rfl rfl ?_
    obtain ⟨p33, i34, v39, e35, c36, c37, c38, e40, H⟩ := zlg_e H
    refine zA_l3 rfl rfl rfl e35 c36 c37 c38 e40 ?_
    cases H
theorem zmE74 (x0 : zq) : zpad (zPr.2.1 74).1 (zil [zrv x0]) = [some (zrv x0), none, none] := by
  simp only [zil_A, zil_I, zil_F, zil_D, zil_N]
  rfl
-- 13: ReleaseHouse$Release.ofNow()I
def zm13 (x0 : zq) (h : zH) : zRs Int32 :=
  zob 5 x0 fun p21 i22 =>
  zob 4 (zr h p21 i22 1) fun p25 i26 =>
  if (zi h p25 i26 3) ≤ (zi h p21 i22 3) then
    some (.inl (-1 : Int32), h)
  else
    zob 4 (zr h p21 i22 1) fun p30 i31 =>
    zri (zr h p30 i31 1) (zi h p21 i22 3) h fun v41 =>
    some (.inl v41, h)
theorem zmS13 {x0 : zq} {h : zH} {r : Int32 ⊕ Nat} {h' : zH} (H : zm13 x0 h = some (r, h')) : zAt 13 0 [some (zrv x0)] [] h (zoI r) h' := by
  unfold zm13 at H
  refine zA_aldn rfl rfl rfl ?_
  obtain ⟨p21, i22, e23, c24, H⟩ := zob_e H
  refine zA_gf0 rfl rfl (Or.inl rfl) e23 c24 ?_
  refine zA_aldn rfl rfl rfl ?_
  refine zA_gf3 rfl rfl e23 c24 ?_
  obtain ⟨p25, i26, e27, c28, H⟩ := zob_e H
  refine zA_gf0 rfl rfl (Or.inl rfl) e27 c28 ?_
  rcases zite_e H with ⟨c29, H⟩ | ⟨c29, H⟩
  · refine zA_brT (c := (zi h p25 i26 3) ≤ (zi h p21 i22 3)) rfl rfl rfl c29 ?_
    refine zA_tr (L := [none]) rfl rfl ?_
    refine zA_push rfl rfl zkk6 ?_
    cases H
    exact zA_ret rfl rfl
  · refine zA_brF (c := (zi h p25 i26 3) ≤ (zi h p21 i22 3)) rfl rfl rfl c29 ?_
    refine zA_aldn rfl rfl rfl ?_
    refine zA_gf3 rfl rfl e23 c24 ?_
    obtain ⟨p30, i31, e32, c33, H⟩ := zob_e H
    refine zA_gf3 rfl rfl e32 c33 ?_
    refine zA_aldn rfl rfl rfl ?_
    refine zA_gf0 rfl rfl (Or.inl rfl) e23 c24 ?_
    obtain ⟨p34, i35, j36, v41, e37, c38, c39, e40, e42, H⟩ := zri_e H
    refine zA_ial rfl rfl e37 c38 c39 e40 e42 ?_
    refine zA_go rfl rfl ?_
    refine zA_tr (L := [none]) rfl rfl ?_
    cases H
    exact zA_ret rfl rfl
theorem zmE13 (x0 : zq) : zpad (zPr.2.1 13).1 (zil [zrv x0]) = [some (zrv x0)] := by
  simp only [zil_A, zil_I, zil_F, zil_D, zil_N]
  rfl
-- 14: ReleaseHouse$Release.shareNow()I
def zm14 (x0 : zq) (h : zH) : zRs Int32 :=
  zob 5 x0 fun p21 i22 =>
  zb (zm12 x0 h) fun x26 h25 =>
  if x26 = 0 then
    zob 4 (zr h25 p21 i22 1) fun p28 i29 =>
    zri (zr h25 p28 i29 2) (zi h25 p21 i22 3) h25 fun v39 =>
    some (.inl v39, h25)
  else
    some (.inl (0 : Int32), h25)
theorem zmS14 {x0 : zq} {h : zH} {r : Int32 ⊕ Nat} {h' : zH} (H : zm14 x0 h = some (r, h')) : zAt 14 0 [some (zrv x0)] [] h (zoI r) h' := by
  unfold zm14 at H
  refine zA_aldn rfl rfl rfl ?_
  obtain ⟨p21, i22, e23, c24, H⟩ := zob_e H
  rcases zb_e H with ⟨x26, h25, C, H⟩ | ⟨E, h25, C, H⟩
  · refine zA_callV (as := [zrv x0]) (st' := []) rfl rfl rfl (zrcv_Q e23 c24) rfl (zmE12 _) rfl (zmS12 C) ?_
    rcases zite_e H with ⟨c27, H⟩ | ⟨c27, H⟩
    · refine zA_brF' (c := x26 = 0) rfl rfl rfl c27 ?_
      refine zA_aldn rfl rfl rfl ?_
      refine zA_gf3 rfl rfl e23 c24 ?_
      obtain ⟨p28, i29, e30, c31, H⟩ := zob_e H
      refine zA_gf3 rfl rfl e30 c31 ?_
      refine zA_aldn rfl rfl rfl ?_
      refine zA_gf0 rfl rfl (Or.inl rfl) e23 c24 ?_
      obtain ⟨p32, i33, j34, v39, e35, c36, c37, e38, e40, H⟩ := zri_e H
      refine zA_ial rfl rfl e35 c36 c37 e38 e40 ?_
      refine zA_go rfl rfl ?_
      refine zA_tr (L := [none]) rfl rfl ?_
      cases H
      exact zA_ret rfl rfl
    · refine zA_brT' (c := x26 = 0) rfl rfl rfl c27 ?_
      refine zA_tr (L := [none]) rfl rfl ?_
      refine zA_push rfl rfl zkk7 ?_
      cases H
      exact zA_ret rfl rfl
  · cases H
    exact zA_callX (as := [zrv x0]) (st' := []) rfl rfl (zrcv_Q e23 c24) rfl (zmE12 _) rfl rfl rfl (zmS12 C)
theorem zmE14 (x0 : zq) : zpad (zPr.2.1 14).1 (zil [zrv x0]) = [some (zrv x0)] := by
  simp only [zil_A, zil_I, zil_F, zil_D, zil_N]
  rfl
-- 28: ReleaseHouse$Spot.hasNewerThan(LReleaseHouse$Artefact;)Z
def zm28 (x0 : zq) (x1 : zq) (h : zH) : zRs Int32 :=
  zob 9 x0 fun p21 i22 =>
  if (zr h p21 i22 0) = none then
    some (.inl (0 : Int32), h)
  else
    zob 0 (zr h p21 i22 0) fun p26 i27 =>
    zob 0 x1 fun p30 i31 =>
    if (zi h p26 i27 0) ≤ (zi h p30 i31 0) then
      some (.inl (0 : Int32), h)
    else
      some (.inl (1 : Int32), h)
theorem zmS28 {x0 : zq} {x1 : zq} {h : zH} {r : Int32 ⊕ Nat} {h' : zH} (H : zm28 x0 x1 h = some (r, h')) : zAt 28 0 [some (zrv x0), some (zrv x1)] [] h (zoI r) h' := by
  unfold zm28 at H
  refine zA_aldn rfl rfl rfl ?_
  obtain ⟨p21, i22, e23, c24, H⟩ := zob_e H
  refine zA_gf3 rfl rfl e23 c24 ?_
  rcases zite_e H with ⟨c25, H⟩ | ⟨c25, H⟩
  · refine zA_brT (c := (zr h p21 i22 0) = none) rfl rfl zIf_null c25 ?_
    refine zA_tr (L := [none, none]) rfl rfl ?_
    refine zA_push rfl rfl zkk7 ?_
    cases H
    exact zA_ret rfl (zret_Z (by decide))
  · refine zA_brF (c := (zr h p21 i22 0) = none) rfl rfl zIf_null c25 ?_
    refine zA_aldn rfl rfl rfl ?_
    refine zA_gf3 rfl rfl e23 c24 ?_
    obtain ⟨p26, i27, e28, c29, H⟩ := zob_e H
    refine zA_gf0 rfl rfl (Or.inl rfl) e28 c29 ?_
    refine zA_aldn rfl rfl rfl ?_
    obtain ⟨p30, i31, e32, c33, H⟩ := zob_e H
    refine zA_gf0 rfl rfl (Or.inl rfl) e32 c33 ?_
    rcases zite_e H with ⟨c34, H⟩ | ⟨c34, H⟩
    · refine zA_brT (c := (zi h p26 i27 0) ≤ (zi h p30 i31 0)) rfl rfl rfl c34 ?_
      refine zA_tr (L := [none, none]) rfl rfl ?_
      refine zA_push rfl rfl zkk7 ?_
      cases H
      exact zA_ret rfl (zret_Z (by decide))
    · refine zA_brF (c := (zi h p26 i27 0) ≤ (zi h p30 i31 0)) rfl rfl rfl c34 ?_
      refine zA_push rfl rfl zkk5 ?_
      refine zA_go rfl rfl ?_
      refine zA_tr (L := [none, none]) rfl rfl ?_
      cases H
      exact zA_ret rfl (zret_Z (by decide))
theorem zmE28 (x0 : zq) (x1 : zq) : zpad (zPr.2.1 28).1 (zil [zrv x0, zrv x1]) = [some (zrv x0), some (zrv x1)] := by
  simp only [zil_A, zil_I, zil_F, zil_D, zil_N]
  rfl
-- 67: ReleaseHouse.isFrozen(LReleaseHouse$Release;I)Z
def zm67 (x0 : zq) (x1 : zq) (x2 : Int32) (h : zH) : zRs Int32 :=
  zob 5 x1 fun p21 i22 =>
  if (zi h p21 i22 6) = 0 then
    zob 11 x0 fun p26 i27 =>
    zlz (zr h p26 i27 3) h fun v35 =>
    if v35 ≤ (0 : Int32) then
      some (.inl (0 : Int32), h)
    else
      zlg (zr h p26 i27 3) (0 : Int32) h fun v44 =>
      none
  else
    some (.inl (0 : Int32), h)
theorem zmS67 {x0 : zq} {x1 : zq} {x2 : Int32} {h : zH} {r : Int32 ⊕ Nat} {h' : zH} (H : zm67 x0 x1 x2 h = some (r, h')) : zAt 67 0 [some (zrv x0), some (zrv x1), some (zI x2), none, none] [] h (zoI r) h' := by
  unfold zm67 at H
  refine zA_aldn rfl rfl rfl ?_
  obtain ⟨p21, i22, e23, c24, H⟩ := zob_e H
  refine zA_gf0 rfl rfl (Or.inr rfl) e23 c24 ?_
  rcases zite_e H with ⟨c25, H⟩ | ⟨c25, H⟩
  · refine zA_brT (c := (zi h p21 i22 6) = 0) rfl rfl rfl c25 ?_
    refine zA_push rfl rfl zkk7 ?_
    refine zA_istn2 rfl rfl rfl (zset1 (L' := [some (zrv x0), some (zrv x1), some (zI x2), some (zI (0 : Int32)), none]) rfl rfl (zpcV rfl rfl)) ?_
    refine zA_ldn rfl rfl rfl ?_
    refine zA_aldn rfl rfl rfl ?_
    obtain ⟨p26, i27, e28, c29, H⟩ := zob_e H
    refine zA_gf3 rfl rfl e28 c29 ?_
    obtain ⟨p30, i31, v35, e32, c33, c34, e36, H⟩ := zlz_e H
    refine zA_l2 rfl rfl rfl e32 c33 c34 e36 ?_
    rcases zite_e H with ⟨c37, H⟩ | ⟨c37, H⟩
    · refine zA_brT (c := v35 ≤ (0 : Int32)) rfl rfl rfl c37 ?_
      refine zA_tr (L := [none, none, none, none, none]) rfl rfl ?_
      refine zA_push rfl rfl zkk7 ?_
      cases H
      exact zA_ret rfl (zret_Z (by decide))
    · refine zA_brF (c := v35 ≤ (0 : Int32)) rfl rfl rfl c37 ?_
      refine zA_aldn rfl rfl rfl ?_
      refine zA_gf3 rfl rfl e28 c29 ?_
      refine zA_ldn rfl rfl rfl ?_
      obtain ⟨p38, i39, v44, e40, c41, c42, c43, e45, H⟩ := zlg_e H
      refine zA_l3 rfl rfl rfl e40 c41 c42 c43 e45 ?_
      cases H
  · refine zA_brF (c := (zi h p21 i22 6) = 0) rfl rfl rfl c25 ?_
    refine zA_push rfl rfl zkk7 ?_
    cases H
    exact zA_ret rfl (zret_Z (by decide))
theorem zmE67 (x0 : zq) (x1 : zq) (x2 : Int32) : zpad (zPr.2.1 67).1 (zil [zrv x0, zrv x1, zI x2]) = [some (zrv x0), some (zrv x1), some (zI x2), none, none] := by
  simp only [zil_A, zil_I, zil_F, zil_D, zil_N]
  rfl
-- 66: ReleaseHouse.rivalOf(LReleaseHouse$Artefact;LReleaseHouse$Spot;)LReleaseHouse$Release;
def zm66 (x0 : zq) (x1 : zq) (x2 : zq) (h : zH) : zRs zq :=
  zob 9 x2 fun p21 i22 =>
  if (zr h p21 i22 1) = none then
    some (.inl (none : zq), h)
  else
    if (zr h p21 i22 1) = x1 then
      some (.inl (none : zq), h)
    else
      zob 11 x0 fun p27 i28 =>
      zb (zm53 x0 (zr h p21 i22 1) h) fun x32 h31 =>
      some (.inl x32, h31)
theorem zmS66 {x0 : zq} {x1 : zq} {x2 : zq} {h : zH} {r : zq ⊕ Nat} {h' : zH} (H : zm66 x0 x1 x2 h = some (r, h')) : zAt 66 0 [some (zrv x0), some (zrv x1), some (zrv x2)] [] h (zoA r) h' := by
  unfold zm66 at H
  refine zA_aldn rfl rfl rfl ?_
  obtain ⟨p21, i22, e23, c24, H⟩ := zob_e H
  refine zA_gf3 rfl rfl e23 c24 ?_
  rcases zite_e H with ⟨c25, H⟩ | ⟨c25, H⟩
  · refine zA_brT (c := (zr h p21 i22 1) = none) rfl rfl zIf_null c25 ?_
    refine zA_tr (L := [none, none, none]) rfl rfl ?_
    refine zA_push rfl rfl zkk22 ?_
    cases H
    exact zA_ret rfl (zret_A _)
  · refine zA_brF (c := (zr h p21 i22 1) = none) rfl rfl zIf_null c25 ?_
    refine zA_aldn rfl rfl rfl ?_
    refine zA_gf3 rfl rfl e23 c24 ?_
    refine zA_aldn rfl rfl rfl ?_
    rcases zite_e H with ⟨c26, H⟩ | ⟨c26, H⟩
    · refine zA_brF' (c := (zr h p21 i22 1) = x1) rfl rfl zIf_ane c26 ?_
      refine zA_tr (L := [none, none, none]) rfl rfl ?_
      refine zA_push rfl rfl zkk22 ?_
      cases H
      exact zA_ret rfl (zret_A _)
    · refine zA_brT' (c := (zr h p21 i22 1) = x1) rfl rfl zIf_ane c26 ?_
      refine zA_tr (L := [some (zrv x0), none, some (zrv x2)]) rfl rfl ?_
      refine zA_aldn rfl rfl rfl ?_
      refine zA_aldn rfl rfl rfl ?_
      refine zA_gf3 rfl rfl e23 c24 ?_
      obtain ⟨p27, i28, e29, c30, H⟩ := zob_e H
      rcases zb_e H with ⟨x32, h31, C, H⟩ | ⟨E, h31, C, H⟩
      · refine zA_callV (as := [zrv x0, zrv (zr h p21 i22 1)]) (st' := []) rfl rfl rfl (zrcv_Q e29 c30) rfl (zmE53 _ _) rfl (zmS53 C) ?_
        cases H
        exact zA_ret rfl (zret_A _)
      · cases H
        exact zA_callX (as := [zrv x0, zrv (zr h p21 i22 1)]) (st' := []) rfl rfl (zrcv_Q e29 c30) rfl (zmE53 _ _) rfl rfl rfl (zmS53 C)
theorem zmE66 (x0 : zq) (x1 : zq) (x2 : zq) : zpad (zPr.2.1 66).1 (zil [zrv x0, zrv x1, zrv x2]) = [some (zrv x0), some (zrv x1), some (zrv x2)] := by
  simp only [zil_A, zil_I, zil_F, zil_D, zil_N]
  rfl
-- 70: ReleaseHouse.placesFor(I)I
def zm70 (x0 : Int32) (h : zH) : zRs Int32 :=
  if x0 = 0 then
    some (.inl (0 : Int32), h)
  else
    if (50 : Int32) < x0 then
      some (.inl (2 : Int32), h)
    else
      some (.inl (1 : Int32), h)
theorem zmS70 {x0 : Int32} {h : zH} {r : Int32 ⊕ Nat} {h' : zH} (H : zm70 x0 h = some (r, h')) : zAt 70 0 [some (zI x0)] [] h (zoI r) h' := by
  unfold zm70 at H
  refine zA_ldn rfl rfl rfl ?_
  rcases zite_e H with ⟨c21, H⟩ | ⟨c21, H⟩
  · refine zA_brF' (c := x0 = 0) rfl rfl rfl c21 ?_
    refine zA_push rfl rfl zkk7 ?_
    cases H
    exact zA_ret rfl rfl
  · refine zA_brT' (c := x0 = 0) rfl rfl rfl c21 ?_
    refine zA_ldn rfl rfl rfl ?_
    refine zA_push rfl rfl zkk24 ?_
    rcases zite_e H with ⟨c22, H⟩ | ⟨c22, H⟩
    · refine zA_brT (c := (50 : Int32) < x0) rfl rfl rfl c22 ?_
      refine zA_tr (L := [none]) rfl rfl ?_
      refine zA_push rfl rfl zkk15 ?_
      cases H
      exact zA_ret rfl rfl
    · refine zA_brF (c := (50 : Int32) < x0) rfl rfl rfl c22 ?_
      refine zA_push rfl rfl zkk5 ?_
      refine zA_go rfl rfl ?_
      refine zA_tr (L := [none]) rfl rfl ?_
      cases H
      exact zA_ret rfl rfl
theorem zmE70 (x0 : Int32) : zpad (zPr.2.1 70).1 (zil [zI x0]) = [some (zI x0)] := by
  simp only [zil_A, zil_I, zil_F, zil_D, zil_N]
  rfl
def zm69_25 (k4 : zq → Int32 → Int32 → Int32 → zH → zRs Int32) (x0 : zq) (x1 : Int32) (x2 : Int32) (x3 : Int32) (h : zH) : zRs Int32 :=
  zlet (x3 + (1 : Int32)) fun x21 =>
  k4 x0 x1 x2 x21 h
theorem zmS69_25 {k4 : zq → Int32 → Int32 → Int32 → zH → zRs Int32} (hk4 : ∀ (x0 : zq) (x1 : Int32) (x2 : Int32) (x3 : Int32) (h : zH) (r : Int32 ⊕ Nat) (h' : zH), k4 x0 x1 x2 x3 h = some (r, h') → zAt 69 4 [some (zrv x0), some (zI x1), some (zI x2), some (zI x3), none] [] h (zoI r) h') : ∀ (x0 : zq) (x1 : Int32) (x2 : Int32) (x3 : Int32) (h : zH) (r : Int32 ⊕ Nat) (h' : zH), zm69_25 k4 x0 x1 x2 x3 h = some (r, h') → zAt 69 25 [some (zrv x0), some (zI x1), some (zI x2), some (zI x3), none] [] h (zoI r) h' := by
  intro x0 x1 x2 x3 h r h' H
  unfold zm69_25 at H
  obtain ⟨x21, e22, H⟩ := zlet_e H
  refine zA_inc rfl rfl rfl (e22.trans (congrArg (_ + ·) zkk8)) (zset1 (L' := [some (zrv x0), some (zI x1), some (zI x2), some (zI x21), none]) rfl rfl (zpcV rfl rfl)) ?_
  refine zA_go rfl rfl ?_
  exact zA_tr (L := [some (zrv x0), some (zI x1), some (zI x2), some (zI x21), none]) rfl rfl (hk4 _ _ _ _ _ _ _ H)
def zm69_4 : Nat → zq → Int32 → Int32 → Int32 → zH → zRs Int32
  | 0, _, _, _, _, _ => none
  | n + 1, x0, x1, x2, x3, h =>
    if (4 : Int32) ≤ x3 then
      some (.inl x2, h)
    else
      zob 11 x0 fun p22 i23 =>
      zra (zr h p22 i23 6) x3 h fun v33 =>
      zob 8 v33 fun p35 i36 =>
      zra (zr h p35 i36 0) x1 h fun v46 =>
      zob 9 v46 fun p48 i49 =>
      zb (zm70 (zi h p48 i49 2) h) fun x53 h52 =>
      zlet (x2 + x53) fun x54 =>
      if (zr h52 p48 i49 0) = none then
        zm69_25 (zm69_4 n) x0 x1 x54 x3 h52
      else
        zlet (x54 + (2 : Int32)) fun x57 =>
        zm69_25 (zm69_4 n) x0 x1 x57 x3 h52
theorem zmS69_4 : ∀ (n : Nat) (x0 : zq) (x1 : Int32) (x2 : Int32) (x3 : Int32) (h : zH) (r : Int32 ⊕ Nat) (h' : zH), zm69_4 n x0 x1 x2 x3 h = some (r, h') → zAt 69 4 [some (zrv x0), some (zI x1), some (zI x2), some (zI x3), none] [] h (zoI r) h' := by
  intro n
  induction n with
  | zero => intro x0 x1 x2 x3 h r h' H; cases H
  | succ n ih =>
    intro x0 x1 x2 x3 h r h' H
    unfold zm69_4 at H
    refine zA_ldn rfl rfl rfl ?_
    refine zA_push rfl rfl zkk9 ?_
    rcases zite_e H with ⟨c21, H⟩ | ⟨c21, H⟩
    · refine zA_brT (c := (4 : Int32) ≤ x3) rfl rfl rfl c21 ?_
      refine zA_tr (L := [none, none, some (zI x2), none, none]) rfl rfl ?_
      refine zA_ldn rfl rfl rfl ?_
      cases H
      exact zA_ret rfl rfl
    · refine zA_brF (c := (4 : Int32) ≤ x3) rfl rfl rfl c21 ?_
      refine zA_aldn rfl rfl rfl ?_
      obtain ⟨p22, i23, e24, c25, H⟩ := zob_e H
      refine zA_gf3 rfl rfl e24 c25 ?_
      refine zA_ldn rfl rfl rfl ?_
      obtain ⟨p26, i27, j28, v33, e29, c30, c31, e32, e34, H⟩ := zra_e H
      refine zA_aal rfl rfl e29 c30 c31 e32 e34 ?_
      obtain ⟨p35, i36, e37, c38, H⟩ := zob_e H
      refine zA_gf3 rfl rfl e37 c38 ?_
      refine zA_ldn rfl rfl rfl ?_
      obtain ⟨p39, i40, j41, v46, e42, c43, c44, e45, e47, H⟩ := zra_e H
      refine zA_aal rfl rfl e42 c43 c44 e45 e47 ?_
      refine zA_ast2 rfl rfl rfl (zset1 (L' := [some (zrv x0), some (zI x1), some (zI x2), some (zI x3), some (zrv v46)]) (zcat_rv _) rfl (zpcV rfl rfl)) ?_
      refine zA_ldn rfl rfl rfl ?_
      refine zA_ald rfl rfl rfl ?_
      obtain ⟨p48, i49, e50, c51, H⟩ := zob_e H
      refine zA_gf0 rfl rfl (Or.inl rfl) e50 c51 ?_
      rcases zb_e H with ⟨x53, h52, C, H⟩ | ⟨E, h52, C, H⟩
      · refine zA_callV (as := [zI (zi h p48 i49 2)]) (st' := [zI x2]) rfl rfl rfl rfl rfl (zmE70 _) rfl (zmS70 C) ?_
        refine zA_st (st' := [zI (x2 + x53)]) rfl rfl rfl rfl ?_
        obtain ⟨x54, e55, H⟩ := zlet_e H
        refine zA_istn2 rfl rfl e55 (zset1 (L' := [some (zrv x0), some (zI x1), some (zI x54), some (zI x3), some (zrv v46)]) rfl rfl (zpcV rfl rfl)) ?_
        refine zA_ald rfl rfl rfl ?_
        refine zA_gf3 rfl rfl e50 c51 ?_
        rcases zite_e H with ⟨c56, H⟩ | ⟨c56, H⟩
        · refine zA_brT (c := (zr h52 p48 i49 0) = none) rfl rfl zIf_null c56 ?_
          exact zA_tr (L := [some (zrv x0), some (zI x1), some (zI x54), some (zI x3), none]) rfl rfl (zmS69_25 ih _ _ _ _ _ _ _ H)
        · refine zA_brF (c := (zr h52 p48 i49 0) = none) rfl rfl zIf_null c56 ?_
          obtain ⟨x57, e58, H⟩ := zlet_e H
          refine zA_inc rfl rfl rfl (e58.trans (congrArg (_ + ·) zkk25)) (zset1 (L' := [some (zrv x0), some (zI x1), some (zI x57), some (zI x3), some (zrv v46)]) rfl rfl (zpcV rfl rfl)) ?_
          exact zA_tr (L := [some (zrv x0), some (zI x1), some (zI x57), some (zI x3), none]) rfl rfl (zmS69_25 ih _ _ _ _ _ _ _ H)
      · cases H
        exact zA_callX (as := [zI (zi h p48 i49 2)]) (st' := [zI x2]) rfl rfl rfl rfl (zmE70 _) rfl rfl rfl (zmS70 C)
-- 69: ReleaseHouse.placesTaken(I)I
def zm69 (x0 : zq) (x1 : Int32) (h : zH) : zRs Int32 :=
  zm69_4 zN0 x0 x1 (0 : Int32) (0 : Int32) h
theorem zmS69 {x0 : zq} {x1 : Int32} {h : zH} {r : Int32 ⊕ Nat} {h' : zH} (H : zm69 x0 x1 h = some (r, h')) : zAt 69 0 [some (zrv x0), some (zI x1), none, none, none] [] h (zoI r) h' := by
  unfold zm69 at H
  refine zA_push rfl rfl zkk7 ?_
  refine zA_istn2 rfl rfl rfl (zset1 (L' := [some (zrv x0), some (zI x1), some (zI (0 : Int32)), none, none]) rfl rfl (zpcV rfl rfl)) ?_
  refine zA_push rfl rfl zkk7 ?_
  refine zA_istn2 rfl rfl rfl (zset1 (L' := [some (zrv x0), some (zI x1), some (zI (0 : Int32)), some (zI (0 : Int32)), none]) rfl rfl (zpcV rfl rfl)) ?_
  exact zA_tr (L := [some (zrv x0), some (zI x1), some (zI (0 : Int32)), some (zI (0 : Int32)), none]) rfl rfl (zmS69_4 zN0 _ _ _ _ _ _ _ H)
theorem zmE69 (x0 : zq) (x1 : Int32) : zpad (zPr.2.1 69).1 (zil [zrv x0, zI x1]) = [some (zrv x0), some (zI x1), none, none, none] := by
  simp only [zil_A, zil_I, zil_F, zil_D, zil_N]
  rfl
-- 292: java/lang/Integer.bitCount(I)I
def zm292 (x0 : Int32) (h : zH) : zRs Int32 :=
  zlet (x0 - (((x0.toUInt32 >>> ((1 : Int32).toUInt32 &&& Int32.toUInt32 31)).toInt32) &&& (1431655765 : Int32))) fun x21 =>
  zlet ((x21 &&& (858993459 : Int32)) + (((x21.toUInt32 >>> ((2 : Int32).toUInt32 &&& Int32.toUInt32 31)).toInt32) &&& (858993459 : Int32))) fun x23 =>
  zlet ((x23 + ((x23.toUInt32 >>> ((4 : Int32).toUInt32 &&& Int32.toUInt32 31)).toInt32)) &&& (252645135 : Int32)) fun x25 =>
  zlet (x25 + ((x25.toUInt32 >>> ((8 : Int32).toUInt32 &&& Int32.toUInt32 31)).toInt32)) fun x27 =>
  zlet (x27 + ((x27.toUInt32 >>> ((16 : Int32).toUInt32 &&& Int32.toUInt32 31)).toInt32)) fun x29 =>
  some (.inl (x29 &&& (63 : Int32)), h)
theorem zmS292 {x0 : Int32} {h : zH} {r : Int32 ⊕ Nat} {h' : zH} (H : zm292 x0 h = some (r, h')) : zAt 292 0 [some (zI x0)] [] h (zoI r) h' := by
  unfold zm292 at H
  refine zA_ldn rfl rfl rfl ?_
  refine zA_ldn rfl rfl rfl ?_
  refine zA_push rfl rfl zkk5 ?_
  refine zA_st (st' := [zI ((x0.toUInt32 >>> ((1 : Int32).toUInt32 &&& Int32.toUInt32 31)).toInt32), zI x0]) rfl rfl rfl rfl ?_
  refine zA_push rfl rfl zkk26 ?_
  refine zA_st (st' := [zI (((x0.toUInt32 >>> ((1 : Int32).toUInt32 &&& Int32.toUInt32 31)).toInt32) &&& (1431655765 : Int32)), zI x0]) rfl rfl rfl rfl ?_
  refine zA_st (st' := [zI (x0 - (((x0.toUInt32 >>> ((1 : Int32).toUInt32 &&& Int32.toUInt32 31)).toInt32) &&& (1431655765 : Int32)))]) rfl rfl rfl rfl ?_
  obtain ⟨x21, e22, H⟩ := zlet_e H
  refine zA_istn2 rfl rfl e22 (zset1 (L' := [some (zI x21)]) rfl rfl zpc0) ?_
  refine zA_ldn rfl rfl rfl ?_
  refine zA_push rfl rfl zkk27 ?_
  refine zA_st (st' := [zI (x21 &&& (858993459 : Int32))]) rfl rfl rfl rfl ?_
  refine zA_ldn rfl rfl rfl ?_
  refine zA_push rfl rfl zkk15 ?_
  refine zA_st (st' := [zI ((x21.toUInt32 >>> ((2 : Int32).toUInt32 &&& Int32.toUInt32 31)).toInt32), zI (x21 &&& (858993459 : Int32))]) rfl rfl rfl rfl ?_
  refine zA_push rfl rfl zkk27 ?_
  refine zA_st (st' := [zI (((x21.toUInt32 >>> ((2 : Int32).toUInt32 &&& Int32.toUInt32 31)).toInt32) &&& (858993459 : Int32)), zI (x21 &&& (858993459 : Int32))]) rfl rfl rfl rfl ?_
  refine zA_st (st' := [zI ((x21 &&& (858993459 : Int32)) + (((x21.toUInt32 >>> ((2 : Int32).toUInt32 &&& Int32.toUInt32 31)).toInt32) &&& (858993459 : Int32)))]) rfl rfl rfl rfl ?_
  obtain ⟨x23, e24, H⟩ := zlet_e H
  refine zA_istn2 rfl rfl e24 (zset1 (L' := [some (zI x23)]) rfl rfl zpc0) ?_
  refine zA_ldn rfl rfl rfl ?_
  refine zA_ldn rfl rfl rfl ?_
  refine zA_push rfl rfl zkk9 ?_
  refine zA_st (st' := [zI ((x23.toUInt32 >>> ((4 : Int32).toUInt32 &&& Int32.toUInt32 31)).toInt32), zI x23]) rfl rfl rfl rfl ?_
  refine zA_st (st' := [zI (x23 + ((x23.toUInt32 >>> ((4 : Int32).toUInt32 &&& Int32.toUInt32 31)).toInt32))]) rfl rfl rfl rfl ?_
  refine zA_push rfl rfl zkk28 ?_
  refine zA_st (st' := [zI ((x23 + ((x23.toUInt32 >>> ((4 : Int32).toUInt32 &&& Int32.toUInt32 31)).toInt32)) &&& (252645135 : Int32))]) rfl rfl rfl rfl ?_
  obtain ⟨x25, e26, H⟩ := zlet_e H
  refine zA_istn2 rfl rfl e26 (zset1 (L' := [some (zI x25)]) rfl rfl zpc0) ?_
  refine zA_ldn rfl rfl rfl ?_
  refine zA_ldn rfl rfl rfl ?_
  refine zA_push rfl rfl zkk0 ?_
  refine zA_st (st' := [zI ((x25.toUInt32 >>> ((8 : Int32).toUInt32 &&& Int32.toUInt32 31)).toInt32), zI x25]) rfl rfl rfl rfl ?_
  refine zA_st (st' := [zI (x25 + ((x25.toUInt32 >>> ((8 : Int32).toUInt32 &&& Int32.toUInt32 31)).toInt32))]) rfl rfl rfl rfl ?_
  obtain ⟨x27, e28, H⟩ := zlet_e H
  refine zA_istn2 rfl rfl e28 (zset1 (L' := [some (zI x27)]) rfl rfl zpc0) ?_
  refine zA_ldn rfl rfl rfl ?_
  refine zA_ldn rfl rfl rfl ?_
  refine zA_push rfl rfl zkk29 ?_
  refine zA_st (st' := [zI ((x27.toUInt32 >>> ((16 : Int32).toUInt32 &&& Int32.toUInt32 31)).toInt32), zI x27]) rfl rfl rfl rfl ?_
  refine zA_st (st' := [zI (x27 + ((x27.toUInt32 >>> ((16 : Int32).toUInt32 &&& Int32.toUInt32 31)).toInt32))]) rfl rfl rfl rfl ?_
  obtain ⟨x29, e30, H⟩ := zlet_e H
  refine zA_istn2 rfl rfl e30 (zset1 (L' := [some (zI x29)]) rfl rfl zpc0) ?_
  refine zA_ldn rfl rfl rfl ?_
  refine zA_push rfl rfl zkk30 ?_
  refine zA_st (st' := [zI (x29 &&& (63 : Int32))]) rfl rfl rfl rfl ?_
  cases H
  exact zA_ret rfl rfl
theorem zmE292 (x0 : Int32) : zpad (zPr.2.1 292).1 (zil [zI x0]) = [some (zI x0)] := by
  simp only [zil_A, zil_I, zil_F, zil_D, zil_N]
  rfl
-- 71: ReleaseHouse.placesIn(I)I
def zm71 (x0 : zq) (x1 : Int32) (h : zH) : zRs Int32 :=
  zob 11 x0 fun p21 i22 =>
  zri (zr h p21 i22 8) x1 h fun v32 =>
  zb (zm292 v32 h) fun x35 h34 =>
  zri (zr h34 p21 i22 9) x1 h34 fun v43 =>
  some (.inl (((4 : Int32) * ((3 : Int32) - x35)) + v43), h34)
theorem zmS71 {x0 : zq} {x1 : Int32} {h : zH} {r : Int32 ⊕ Nat} {h' : zH} (H : zm71 x0 x1 h = some (r, h')) : zAt 71 0 [some (zrv x0), some (zI x1)] [] h (zoI r) h' := by
  unfold zm71 at H
  refine zA_push rfl rfl zkk9 ?_
  refine zA_push rfl rfl zkk3 ?_
  refine zA_aldn rfl rfl rfl ?_
  obtain ⟨p21, i22, e23, c24, H⟩ := zob_e H
  refine zA_gf3 rfl rfl e23 c24 ?_
  refine zA_ldn rfl rfl rfl ?_
  obtain ⟨p25, i26, j27, v32, e28, c29, c30, e31, e33, H⟩ := zri_e H
  refine zA_ial rfl rfl e28 c29 c30 e31 e33 ?_
  rcases zb_e H with ⟨x35, h34, C, H⟩ | ⟨E, h34, C, H⟩
  · refine zA_callV (as := [zI v32]) (st' := [zI (3 : Int32), zI (4 : Int32)]) rfl rfl rfl rfl rfl (zmE292 _) rfl (zmS292 C) ?_
    refine zA_st (st' := [zI ((3 : Int32) - x35), zI (4 : Int32)]) rfl rfl rfl rfl ?_
    refine zA_st (st' := [zI ((4 : Int32) * ((3 : Int32) - x35))]) rfl rfl rfl rfl ?_
    refine zA_aldn rfl rfl rfl ?_
    refine zA_gf3 rfl rfl e23 c24 ?_
    refine zA_ldn rfl rfl rfl ?_
    obtain ⟨p36, i37, j38, v43, e39, c40, c41, e42, e44, H⟩ := zri_e H
    refine zA_ial rfl rfl e39 c40 c41 e42 e44 ?_
    refine zA_st (st' := [zI (((4 : Int32) * ((3 : Int32) - x35)) + v43)]) rfl rfl rfl rfl ?_
    cases H
    exact zA_ret rfl rfl
  · cases H
    exact zA_callX (as := [zI v32]) (st' := [zI (3 : Int32), zI (4 : Int32)]) rfl rfl rfl rfl (zmE292 _) rfl rfl rfl (zmS292 C)
theorem zmE71 (x0 : zq) (x1 : Int32) : zpad (zPr.2.1 71).1 (zil [zrv x0, zI x1]) = [some (zrv x0), some (zI x1)] := by
  simp only [zil_A, zil_I, zil_F, zil_D, zil_N]
  rfl
def zm68_79 (k49 : Int32 → zq → zq → Int32 → Int32 → zH → zRs Int32) (x2 : Int32) (x4 : zq) (x5 : zq) (x9 : Int32) (x10 : Int32) (h : zH) : zRs Int32 :=
  zlet (x10 + (1 : Int32)) fun x21 =>
  k49 x2 x4 x5 x9 x21 h
theorem zmS68_79 {k49 : Int32 → zq → zq → Int32 → Int32 → zH → zRs Int32} (hk49 : ∀ (x2 : Int32) (x4 : zq) (x5 : zq) (x9 : Int32) (x10 : Int32) (h : zH) (r : Int32 ⊕ Nat) (h' : zH), k49 x2 x4 x5 x9 x10 h = some (r, h') → zAt 68 49 [none, none, some (zI x2), none, some (zrv x4), some (zrv x5), none, none, none, some (zI x9), some (zI x10), none, none] [] h (zoI r) h') : ∀ (x2 : Int32) (x4 : zq) (x5 : zq) (x9 : Int32) (x10 : Int32) (h : zH) (r : Int32 ⊕ Nat) (h' : zH), zm68_79 k49 x2 x4 x5 x9 x10 h = some (r, h') → zAt 68 79 [none, none, some (zI x2), none, some (zrv x4), some (zrv x5), none, none, none, some (zI x9), some (zI x10), none, none] [] h (zoI r) h' := by
  intro x2 x4 x5 x9 x10 h r h' H
  unfold zm68_79 at H
  obtain ⟨x21, e22, H⟩ := zlet_e H
  refine zA_inc rfl rfl rfl (e22.trans (congrArg (_ + ·) zkk8)) (zset1 (L' := [none, none, some (zI x2), none, some (zrv x4), some (zrv x5), none, none, none, some (zI x9), some (zI x21), none, none]) rfl rfl (zpcV rfl rfl)) ?_
  refine zA_go rfl rfl ?_
  exact zA_tr (L := [none, none, some (zI x2), none, some (zrv x4), some (zrv x5), none, none, none, some (zI x9), some (zI x21), none, none]) rfl rfl (hk49 _ _ _ _ _ _ _ _ H)
def zm68_67 (k49 : Int32 → zq → zq → Int32 → Int32 → zH → zRs Int32) (x2 : Int32) (x4 : zq) (x5 : zq) (x9 : Int32) (x10 : Int32) (x11 : zq) (s0 : Int32) (h : zH) : zRs Int32 :=
  if x10 = x2 then
    zm68_79 k49 x2 x4 x5 x9 x10 h
  else
    if s0 = 0 then
      zob 9 x11 fun p23 i24 =>
      zb (zm70 (zi h p23 i24 2) h) fun x28 h27 =>
      zlet (x9 + x28) fun x29 =>
      zm68_79 k49 x2 x4 x5 x29 x10 h27
    else
      zm68_79 k49 x2 x4 x5 x9 x10 h
theorem zmS68_67 {k49 : Int32 → zq → zq → Int32 → Int32 → zH → zRs Int32} (hk49 : ∀ (x2 : Int32) (x4 : zq) (x5 : zq) (x9 : Int32) (x10 : Int32) (h : zH) (r : Int32 ⊕ Nat) (h' : zH), k49 x2 x4 x5 x9 x10 h = some (r, h') → zAt 68 49 [none, none, some (zI x2), none, some (zrv x4), some (zrv x5), none, none, none, some (zI x9), some (zI x10), none, none] [] h (zoI r) h') : ∀ (x2 : Int32) (x4 : zq) (x5 : zq) (x9 : Int32) (x10 : Int32) (x11 : zq) (s0 : Int32) (h : zH) (r : Int32 ⊕ Nat) (h' : zH), zm68_67 k49 x2 x4 x5 x9 x10 x11 s0 h = some (r, h') → zAt 68 67 [none, none, some (zI x2), none, some (zrv x4), some (zrv x5), none, none, none, some (zI x9), some (zI x10), some (zrv x11), none] [zI s0] h (zoI r) h' := by
  intro x2 x4 x5 x9 x10 x11 s0 h r h' H
  unfold zm68_67 at H
  refine zA_ist2 rfl rfl rfl (zset1 (L' := [none, none, some (zI x2), none, some (zrv x4), some (zrv x5), none, none, none, some (zI x9), some (zI x10), some (zrv x11), some (zI s0)]) rfl rfl (zpcV rfl (zcat_rv _))) ?_
  refine zA_ld rfl rfl rfl ?_
  refine zA_ldn rfl rfl rfl ?_
  rcases zite_e H with ⟨c21, H⟩ | ⟨c21, H⟩
  · refine zA_brT (c := x10 = x2) rfl rfl rfl c21 ?_
    exact zA_tr (L := [none, none, some (zI x2), none, some (zrv x4), some (zrv x5), none, none, none, some (zI x9), some (zI x10), none, none]) rfl rfl (zmS68_79 hk49 _ _ _ _ _ _ _ _ H)
  · refine zA_brF (c := x10 = x2) rfl rfl rfl c21 ?_
    refine zA_ld rfl rfl rfl ?_
    rcases zite_e H with ⟨c22, H⟩ | ⟨c22, H⟩
    · refine zA_brF' (c := s0 = 0) rfl rfl rfl c22 ?_
      refine zA_ld rfl rfl rfl ?_
      refine zA_ald rfl rfl rfl ?_
      obtain ⟨p23, i24, e25, c26, H⟩ := zob_e H
      refine zA_gf0 rfl rfl (Or.inl rfl) e25 c26 ?_
      rcases zb_e H with ⟨x28, h27, C, H⟩ | ⟨E, h27, C, H⟩
      · refine zA_callV (as := [zI (zi h p23 i24 2)]) (st' := [zI x9]) rfl rfl rfl rfl rfl (zmE70 _) rfl (zmS70 C) ?_
        refine zA_st (st' := [zI (x9 + x28)]) rfl rfl rfl rfl ?_
        obtain ⟨x29, e30, H⟩ := zlet_e H
        refine zA_ist2 rfl rfl e30 (zset1 (L' := [none, none, some (zI x2), none, some (zrv x4), some (zrv x5), none, none, none, some (zI x29), some (zI x10), some (zrv x11), some (zI s0)]) rfl rfl (zpcN rfl)) ?_
        exact zA_tr (L := [none, none, some (zI x2), none, some (zrv x4), some (zrv x5), none, none, none, some (zI x29), some (zI x10), none, none]) rfl rfl (zmS68_79 hk49 _ _ _ _ _ _ _ _ H)
      · cases H
        exact zA_callX (as := [zI (zi h p23 i24 2)]) (st' := [zI x9]) rfl rfl rfl rfl (zmE70 _) rfl rfl rfl (zmS70 C)
    · refine zA_brT' (c := s0 = 0) rfl rfl rfl c22 ?_
      exact zA_tr (L := [none, none, some (zI x2), none, some (zrv x4), some (zrv x5), none, none, none, some (zI x9), some (zI x10), none, none]) rfl rfl (zmS68_79 hk49 _ _ _ _ _ _ _ _ H)
def zm68_49 (k81 : Int32 → zH → zRs Int32) : Nat → Int32 → zq → zq → Int32 → Int32 → zH → zRs Int32
  | 0, _, _, _, _, _, _ => none
  | n + 1, x2, x4, x5, x9, x10, h =>
    if (3 : Int32) ≤ x10 then
      k81 x9 h
    else
      zob 8 x5 fun p22 i23 =>
      zra (zr h p22 i23 0) x10 h fun v33 =>
      if x4 = none then
        zm68_67 (zm68_49 k81 n) x2 x4 x5 x9 x10 v33 (0 : Int32) h
      else
        zob 9 v33 fun p36 i37 =>
        zob 5 x4 fun p40 i41 =>
        if (zr h p36 i37 1) = (zr h p40 i41 0) then
          zm68_67 (zm68_49 k81 n) x2 x4 x5 x9 x10 v33 (1 : Int32) h
        else
          zm68_67 (zm68_49 k81 n) x2 x4 x5 x9 x10 v33 (0 : Int32) h
theorem zmS68_49 {k81 : Int32 → zH → zRs Int32} (hk81 : ∀ (x9 : Int32) (h : zH) (r : Int32 ⊕ Nat) (h' : zH), k81 x9 h = some (r, h') → zAt 68 81 [none, none, none, none, none, none, none, none, none, some (zI x9), none, none, none] [] h (zoI r) h') : ∀ (n : Nat) (x2 : Int32) (x4 : zq) (x5 : zq) (x9 : Int32) (x10 : Int32) (h : zH) (r : Int32 ⊕ Nat) (h' : zH), zm68_49 k81 n x2 x4 x5 x9 x10 h = some (r, h') → zAt 68 49 [none, none, some (zI x2), none, some (zrv x4), some (zrv x5), none, none, none, some (zI x9), some (zI x10), none, none] [] h (zoI r) h' := by
  intro n
  induction n with
  | zero => intro x2 x4 x5 x9 x10 h r h' H; cases H
  | succ n ih =>
    intro x2 x4 x5 x9 x10 h r h' H
    unfold zm68_49 at H
    refine zA_ld rfl rfl rfl ?_
    refine zA_push rfl rfl zkk3 ?_
    rcases zite_e H with ⟨c21, H⟩ | ⟨c21, H⟩
    · refine zA_brT (c := (3 : Int32) ≤ x10) rfl rfl rfl c21 ?_
      exact zA_tr (L := [none, none, none, none, none, none, none, none, none, some (zI x9), none, none, none]) rfl rfl (hk81 _ _ _ _ H)
    · refine zA_brF (c := (3 : Int32) ≤ x10) rfl rfl rfl c21 ?_
      refine zA_ald rfl rfl rfl ?_
      obtain ⟨p22, i23, e24, c25, H⟩ := zob_e H
      refine zA_gf3 rfl rfl e24 c25 ?_
      refine zA_ld rfl rfl rfl ?_
      obtain ⟨p26, i27, j28, v33, e29, c30, c31, e32, e34, H⟩ := zra_e H
      refine zA_aal rfl rfl e29 c30 c31 e32 e34 ?_
      refine zA_ast2 rfl rfl rfl (zset1 (L' := [none, none, some (zI x2), none, some (zrv x4), some (zrv x5), none, none, none, some (zI x9), some (zI x10), some (zrv v33), none]) (zcat_rv _) rfl (zpcV rfl rfl)) ?_
      refine zA_ald rfl rfl rfl ?_
      rcases zite_e H with ⟨c35, H⟩ | ⟨c35, H⟩
      · refine zA_brT (c := x4 = none) rfl rfl zIf_null c35 ?_
        refine zA_push rfl rfl zkk7 ?_
        exact zA_tr (L := [none, none, some (zI x2), none, some (zrv x4), some (zrv x5), none, none, none, some (zI x9), some (zI x10), some (zrv v33), none]) rfl rfl (zmS68_67 ih _ _ _ _ _ _ _ _ _ _ H)
      · refine zA_brF (c := x4 = none) rfl rfl zIf_null c35 ?_
        refine zA_ald rfl rfl rfl ?_
        obtain ⟨p36, i37, e38, c39, H⟩ := zob_e H
        refine zA_gf3 rfl rfl e38 c39 ?_
        refine zA_ald rfl rfl rfl ?_
        obtain ⟨p40, i41, e42, c43, H⟩ := zob_e H
        refine zA_gf3 rfl rfl e42 c43 ?_
        rcases zite_e H with ⟨c44, H⟩ | ⟨c44, H⟩
        · refine zA_brF' (c := (zr h p36 i37 1) = (zr h p40 i41 0)) rfl rfl zIf_ane c44 ?_
          refine zA_push rfl rfl zkk5 ?_
          refine zA_go rfl rfl ?_
          exact zA_tr (L := [none, none, some (zI x2), none, some (zrv x4), some (zrv x5), none, none, none, some (zI x9), some (zI x10), some (zrv v33), none]) rfl rfl (zmS68_67 ih _ _ _ _ _ _ _ _ _ _ H)
        · refine zA_brT' (c := (zr h p36 i37 1) = (zr h p40 i41 0)) rfl rfl zIf_ane c44 ?_
          refine zA_push rfl rfl zkk7 ?_
          exact zA_tr (L := [none, none, some (zI x2), none, some (zrv x4), some (zrv x5), none, none, none, some (zI x9), some (zI x10), some (zrv v33), none]) rfl rfl (zmS68_67 ih _ _ _ _ _ _ _ _ _ _ H)
def zm68_81 (x9 : Int32) (h : zH) : zRs Int32 :=
  if (4 : Int32) < x9 then
    some (.inl (0 : Int32), h)
  else
    some (.inl (1 : Int32), h)
theorem zmS68_81 : ∀ (x9 : Int32) (h : zH) (r : Int32 ⊕ Nat) (h' : zH), zm68_81 x9 h = some (r, h') → zAt 68 81 [none, none, none, none, none, none, none, none, none, some (zI x9), none, none, none] [] h (zoI r) h' := by
  intro x9 h r h' H
  unfold zm68_81 at H
  refine zA_ld rfl rfl rfl ?_
  refine zA_push rfl rfl zkk9 ?_
  rcases zite_e H with ⟨c21, H⟩ | ⟨c21, H⟩
  · refine zA_brT (c := (4 : Int32) < x9) rfl rfl rfl c21 ?_
    refine zA_tr (L := [none, none, none, none, none, none, none, none, none, none, none, none, none]) rfl rfl ?_
    refine zA_push rfl rfl zkk7 ?_
    cases H
    exact zA_ret rfl (zret_Z (by decide))
  · refine zA_brF (c := (4 : Int32) < x9) rfl rfl rfl c21 ?_
    refine zA_push rfl rfl zkk5 ?_
    refine zA_go rfl rfl ?_
    refine zA_tr (L := [none, none, none, none, none, none, none, none, none, none, none, none, none]) rfl rfl ?_
    cases H
    exact zA_ret rfl (zret_Z (by decide))
def zm68_40 (x2 : Int32) (x3 : Int32) (x4 : zq) (x5 : zq) (h : zH) : zRs Int32 :=
  if x3 = 0 then
    some (.inl (1 : Int32), h)
  else
    zb (zm70 x3 h) fun x23 h22 =>
    zm68_49 (zm68_81) zN0 x2 x4 x5 x23 (0 : Int32) h22
theorem zmS68_40 : ∀ (x2 : Int32) (x3 : Int32) (x4 : zq) (x5 : zq) (h : zH) (r : Int32 ⊕ Nat) (h' : zH), zm68_40 x2 x3 x4 x5 h = some (r, h') → zAt 68 40 [none, none, some (zI x2), some (zI x3), some (zrv x4), some (zrv x5), none, none, none, none, none, none, none] [] h (zoI r) h' := by
  intro x2 x3 x4 x5 h r h' H
  unfold zm68_40 at H
  refine zA_ldn rfl rfl rfl ?_
  rcases zite_e H with ⟨c21, H⟩ | ⟨c21, H⟩
  · refine zA_brF' (c := x3 = 0) rfl rfl rfl c21 ?_
    refine zA_push rfl rfl zkk5 ?_
    cases H
    exact zA_ret rfl (zret_Z (by decide))
  · refine zA_brT' (c := x3 = 0) rfl rfl rfl c21 ?_
    refine zA_ldn rfl rfl rfl ?_
    rcases zb_e H with ⟨x23, h22, C, H⟩ | ⟨E, h22, C, H⟩
    · refine zA_callV (as := [zI x3]) (st' := []) rfl rfl rfl rfl rfl (zmE70 _) rfl (zmS70 C) ?_
      refine zA_ist2 rfl rfl rfl (zset1 (L' := [none, none, some (zI x2), some (zI x3), some (zrv x4), some (zrv x5), none, none, none, some (zI x23), none, none, none]) rfl rfl (zpcN rfl)) ?_
      refine zA_push rfl rfl zkk7 ?_
      refine zA_ist2 rfl rfl rfl (zset1 (L' := [none, none, some (zI x2), some (zI x3), some (zrv x4), some (zrv x5), none, none, none, some (zI x23), some (zI (0 : Int32)), none, none]) rfl rfl (zpcV rfl rfl)) ?_
      exact zA_tr (L := [none, none, some (zI x2), none, some (zrv x4), some (zrv x5), none, none, none, some (zI x23), some (zI (0 : Int32)), none, none]) rfl rfl (zmS68_49 (zmS68_81) zN0 _ _ _ _ _ _ _ _ H)
    · cases H
      exact zA_callX (as := [zI x3]) (st' := []) rfl rfl rfl rfl (zmE70 _) rfl rfl rfl (zmS70 C)
def zm68_30 (x0 : zq) (x2 : Int32) (x3 : Int32) (x4 : zq) (x5 : zq) (x7 : Int32) (x8 : Int32) (h : zH) : zRs Int32 :=
  zob 11 x0 fun p21 i22 =>
  zb (zm71 x0 x2 h) fun x26 h25 =>
  if x8 ≤ x26 then
    zm68_40 x2 x3 x4 x5 h25
  else
    if x8 ≤ x7 then
      zm68_40 x2 x3 x4 x5 h25
    else
      some (.inl (0 : Int32), h25)
theorem zmS68_30 : ∀ (x0 : zq) (x2 : Int32) (x3 : Int32) (x4 : zq) (x5 : zq) (x7 : Int32) (x8 : Int32) (h : zH) (r : Int32 ⊕ Nat) (h' : zH), zm68_30 x0 x2 x3 x4 x5 x7 x8 h = some (r, h') → zAt 68 30 [some (zrv x0), none, some (zI x2), some (zI x3), some (zrv x4), some (zrv x5), none, some (zI x7), some (zI x8), none, none, none, none] [] h (zoI r) h' := by
  intro x0 x2 x3 x4 x5 x7 x8 h r h' H
  unfold zm68_30 at H
  refine zA_ld rfl rfl rfl ?_
  refine zA_aldn rfl rfl rfl ?_
  refine zA_ldn rfl rfl rfl ?_
  obtain ⟨p21, i22, e23, c24, H⟩ := zob_e H
  rcases zb_e H with ⟨x26, h25, C, H⟩ | ⟨E, h25, C, H⟩
  · refine zA_callV (as := [zrv x0, zI x2]) (st' := [zI x8]) rfl rfl rfl (zrcv_Q e23 c24) rfl (zmE71 _ _) rfl (zmS71 C) ?_
    rcases zite_e H with ⟨c27, H⟩ | ⟨c27, H⟩
    · refine zA_brT (c := x8 ≤ x26) rfl rfl rfl c27 ?_
      exact zA_tr (L := [none, none, some (zI x2), some (zI x3), some (zrv x4), some (zrv x5), none, none, none, none, none, none, none]) rfl rfl (zmS68_40 _ _ _ _ _ _ _ H)
    · refine zA_brF (c := x8 ≤ x26) rfl rfl rfl c27 ?_
      refine zA_ld rfl rfl rfl ?_
      refine zA_ld rfl rfl rfl ?_
      rcases zite_e H with ⟨c28, H⟩ | ⟨c28, H⟩
      · refine zA_brT (c := x8 ≤ x7) rfl rfl rfl c28 ?_
        exact zA_tr (L := [none, none, some (zI x2), some (zI x3), some (zrv x4), some (zrv x5), none, none, none, none, none, none, none]) rfl rfl (zmS68_40 _ _ _ _ _ _ _ H)
      · refine zA_brF (c := x8 ≤ x7) rfl rfl rfl c28 ?_
        refine zA_push rfl rfl zkk7 ?_
        cases H
        exact zA_ret rfl (zret_Z (by decide))
  · cases H
    exact zA_callX (as := [zrv x0, zI x2]) (st' := [zI x8]) rfl rfl (zrcv_Q e23 c24) rfl (zmE71 _ _) rfl rfl rfl (zmS71 C)
-- 68: ReleaseHouse.hasRoom(LReleaseHouse$Artefact;IILReleaseHouse$Release;)Z
def zm68 (x0 : zq) (x1 : zq) (x2 : Int32) (x3 : Int32) (x4 : zq) (h : zH) : zRs Int32 :=
  zob 11 x0 fun p21 i22 =>
  zob 0 x1 fun p25 i26 =>
  zra (zr h p21 i22 6) (zi h p25 i26 1) h fun v36 =>
  zob 8 v36 fun p38 i39 =>
  zra (zr h p38 i39 0) x2 h fun v49 =>
  zb (zm69 x0 x2 h) fun x52 h51 =>
  zob 9 v49 fun p53 i54 =>
  zb (zm70 (zi h51 p53 i54 2) h51) fun x58 h57 =>
  zb (zm70 x3 h57) fun x60 h59 =>
  zlet ((x52 - x58) + x60) fun x61 =>
  if x3 = 0 then
    if (zr h59 p53 i54 0) = none then
      zlet (x61 + (2 : Int32)) fun x65 =>
      zm68_30 x0 x2 x3 x4 v36 x52 x65 h59
    else
      zm68_30 x0 x2 x3 x4 v36 x52 x61 h59
  else
    zm68_30 x0 x2 x3 x4 v36 x52 x61 h59
theorem zmS68 {x0 : zq} {x1 : zq} {x2 : Int32} {x3 : Int32} {x4 : zq} {h : zH} {r : Int32 ⊕ Nat} {h' : zH} (H : zm68 x0 x1 x2 x3 x4 h = some (r, h')) : zAt 68 0 [some (zrv x0), some (zrv x1), some (zI x2), some (zI x3), some (zrv x4), none, none, none, none, none, none, none, none] [] h (zoI r) h' := by
  unfold zm68 at H
  refine zA_aldn rfl rfl rfl ?_
  obtain ⟨p21, i22, e23, c24, H⟩ := zob_e H
  refine zA_gf3 rfl rfl e23 c24 ?_
  refine zA_aldn rfl rfl rfl ?_
  obtain ⟨p25, i26, e27, c28, H⟩ := zob_e H
  refine zA_gf0 rfl rfl (Or.inl rfl) e27 c28 ?_
  obtain ⟨p29, i30, j31, v36, e32, c33, c34, e35, e37, H⟩ := zra_e H
  refine zA_aal rfl rfl e32 c33 c34 e35 e37 ?_
  refine zA_ast2 rfl rfl rfl (zset1 (L' := [some (zrv x0), some (zrv x1), some (zI x2), some (zI x3), some (zrv x4), some (zrv v36), none, none, none, none, none, none, none]) (zcat_rv _) rfl (zpcV rfl (zcat_rv _))) ?_
  refine zA_ald rfl rfl rfl ?_
  obtain ⟨p38, i39, e40, c41, H⟩ := zob_e H
  refine zA_gf3 rfl rfl e40 c41 ?_
  refine zA_ldn rfl rfl rfl ?_
  obtain ⟨p42, i43, j44, v49, e45, c46, c47, e48, e50, H⟩ := zra_e H
  refine zA_aal rfl rfl e45 c46 c47 e48 e50 ?_
  refine zA_ast2 rfl rfl rfl (zset1 (L' := [some (zrv x0), some (zrv x1), some (zI x2), some (zI x3), some (zrv x4), some (zrv v36), some (zrv v49), none, none, none, none, none, none]) (zcat_rv _) rfl (zpcV rfl (zcat_rv _))) ?_
  refine zA_aldn rfl rfl rfl ?_
  refine zA_ldn rfl rfl rfl ?_
  rcases zb_e H with ⟨x52, h51, C, H⟩ | ⟨E, h51, C, H⟩
  · refine zA_callV (as := [zrv x0, zI x2]) (st' := []) rfl rfl rfl (zrcv_Q e23 c24) rfl (zmE69 _ _) rfl (zmS69 C) ?_
    refine zA_ist2 rfl rfl rfl (zset1 (L' := [some (zrv x0), some (zrv x1), some (zI x2), some (zI x3), some (zrv x4), some (zrv v36), some (zrv v49), some (zI x52), none, none, none, none, none]) rfl rfl (zpcV rfl (zcat_rv _))) ?_
    refine zA_ld rfl rfl rfl ?_
    refine zA_ald rfl rfl rfl ?_
    obtain ⟨p53, i54, e55, c56, H⟩ := zob_e H
    refine zA_gf0 rfl rfl (Or.inl rfl) e55 c56 ?_
    rcases zb_e H with ⟨x58, h57, C, H⟩ | ⟨E, h57, C, H⟩
    · refine zA_callV (as := [zI (zi h51 p53 i54 2)]) (st' := [zI x52]) rfl rfl rfl rfl rfl (zmE70 _) rfl (zmS70 C) ?_
      refine zA_st (st' := [zI (x52 - x58)]) rfl rfl rfl rfl ?_
      refine zA_ldn rfl rfl rfl ?_
      rcases zb_e H with ⟨x60, h59, C, H⟩ | ⟨E, h59, C, H⟩
      · refine zA_callV (as := [zI x3]) (st' := [zI (x52 - x58)]) rfl rfl rfl rfl rfl (zmE70 _) rfl (zmS70 C) ?_
        refine zA_st (st' := [zI ((x52 - x58) + x60)]) rfl rfl rfl rfl ?_
        obtain ⟨x61, e62, H⟩ := zlet_e H
        refine zA_ist2 rfl rfl e62 (zset1 (L' := [some (zrv x0), some (zrv x1), some (zI x2), some (zI x3), some (zrv x4), some (zrv v36), some (zrv v49), some (zI x52), some (zI x61), none, none, none, none]) rfl rfl (zpcV rfl rfl)) ?_
        refine zA_ldn rfl rfl rfl ?_
        rcases zite_e H with ⟨c63, H⟩ | ⟨c63, H⟩
        · refine zA_brF' (c := x3 = 0) rfl rfl rfl c63 ?_
          refine zA_ald rfl rfl rfl ?_
          refine zA_gf3 rfl rfl e55 c56 ?_
          rcases zite_e H with ⟨c64, H⟩ | ⟨c64, H⟩
          · refine zA_brF' (c := (zr h59 p53 i54 0) = none) rfl rfl zIf_nonnull c64 ?_
            obtain ⟨x65, e66, H⟩ := zlet_e H
            refine zA_inc rfl rfl rfl (e66.trans (congrArg (_ + ·) zkk25)) (zset1 (L' := [some (zrv x0), some (zrv x1), some (zI x2), some (zI x3), some (zrv x4), some (zrv v36), some (zrv v49), some (zI x52), some (zI x65), none, none, none, none]) rfl rfl (zpcV rfl rfl)) ?_
            exact zA_tr (L := [some (zrv x0), none, some (zI x2), some (zI x3), some (zrv x4), some (zrv v36), none, some (zI x52), some (zI x65), none, none, none, none]) rfl rfl (zmS68_30 _ _ _ _ _ _ _ _ _ _ H)
          · refine zA_brT' (c := (zr h59 p53 i54 0) = none) rfl rfl zIf_nonnull c64 ?_
            exact zA_tr (L := [some (zrv x0), none, some (zI x2), some (zI x3), some (zrv x4), some (zrv v36), none, some (zI x52), some (zI x61), none, none, none, none]) rfl rfl (zmS68_30 _ _ _ _ _ _ _ _ _ _ H)
        · refine zA_brT' (c := x3 = 0) rfl rfl rfl c63 ?_
          exact zA_tr (L := [some (zrv x0), none, some (zI x2), some (zI x3), some (zrv x4), some (zrv v36), none, some (zI x52), some (zI x61), none, none, none, none]) rfl rfl (zmS68_30 _ _ _ _ _ _ _ _ _ _ H)
      · cases H
        exact zA_callX (as := [zI x3]) (st' := [zI (x52 - x58)]) rfl rfl rfl rfl (zmE70 _) rfl rfl rfl (zmS70 C)
    · cases H
      exact zA_callX (as := [zI (zi h51 p53 i54 2)]) (st' := [zI x52]) rfl rfl rfl rfl (zmE70 _) rfl rfl rfl (zmS70 C)
  · cases H
    exact zA_callX (as := [zrv x0, zI x2]) (st' := []) rfl rfl (zrcv_Q e23 c24) rfl (zmE69 _ _) rfl rfl rfl (zmS69 C)
theorem zmE68 (x0 : zq) (x1 : zq) (x2 : Int32) (x3 : Int32) (x4 : zq) : zpad (zPr.2.1 68).1 (zil [zrv x0, zrv x1, zI x2, zI x3, zrv x4]) = [some (zrv x0), some (zrv x1), some (zI x2), some (zI x3), some (zrv x4), none, none, none, none, none, none, none, none] := by
  simp only [zil_A, zil_I, zil_F, zil_D, zil_N]
  rfl
def zm1_42 (x0 : zq) (x1 : zq) (h : zH) : zRs Int32 :=
  zob 0 x1 fun p21 i22 =>
  zob 0 x0 fun p25 i26 =>
  if (zi h p21 i22 5) = (zi h p25 i26 1) then
    if ((zi h p21 i22 4) &&& ((zi h p25 i26 3) ^^^ (-1 : Int32))) = 0 then
      some (.inl (0 : Int32), h)
    else
      some (.inl (4 : Int32), h)
  else
    some (.inl (0 : Int32), h)
theorem zmS1_42 : ∀ (x0 : zq) (x1 : zq) (h : zH) (r : Int32 ⊕ Nat) (h' : zH), zm1_42 x0 x1 h = some (r, h') → zAt 1 42 [some (zrv x0), some (zrv x1)] [] h (zoI r) h' := by
  intro x0 x1 h r h' H
  unfold zm1_42 at H
  refine zA_aldn rfl rfl rfl ?_
  obtain ⟨p21, i22, e23, c24, H⟩ := zob_e H
  refine zA_gf0 rfl rfl (Or.inl rfl) e23 c24 ?_
  refine zA_aldn rfl rfl rfl ?_
  obtain ⟨p25, i26, e27, c28, H⟩ := zob_e H
  refine zA_gf0 rfl rfl (Or.inl rfl) e27 c28 ?_
  rcases zite_e H with ⟨c29, H⟩ | ⟨c29, H⟩
  · refine zA_brF' (c := (zi h p21 i22 5) = (zi h p25 i26 1)) rfl rfl rfl c29 ?_
    refine zA_aldn rfl rfl rfl ?_
    refine zA_gf0 rfl rfl (Or.inl rfl) e23 c24 ?_
    refine zA_aldn rfl rfl rfl ?_
    refine zA_gf0 rfl rfl (Or.inl rfl) e27 c28 ?_
    refine zA_push rfl rfl zkk6 ?_
    refine zA_st (st' := [zI ((zi h p25 i26 3) ^^^ (-1 : Int32)), zI (zi h p21 i22 4)]) rfl rfl rfl rfl ?_
    refine zA_st (st' := [zI ((zi h p21 i22 4) &&& ((zi h p25 i26 3) ^^^ (-1 : Int32)))]) rfl rfl rfl rfl ?_
    rcases zite_e H with ⟨c30, H⟩ | ⟨c30, H⟩
    · refine zA_brT (c := ((zi h p21 i22 4) &&& ((zi h p25 i26 3) ^^^ (-1 : Int32))) = 0) rfl rfl rfl c30 ?_
      refine zA_tr (L := [none, none]) rfl rfl ?_
      refine zA_push rfl rfl zkk7 ?_
      cases H
      exact zA_ret rfl rfl
    · refine zA_brF (c := ((zi h p21 i22 4) &&& ((zi h p25 i26 3) ^^^ (-1 : Int32))) = 0) rfl rfl rfl c30 ?_
      refine zA_push rfl rfl zkk9 ?_
      refine zA_go rfl rfl ?_
      refine zA_tr (L := [none, none]) rfl rfl ?_
      cases H
      exact zA_ret rfl rfl
  · refine zA_brT' (c := (zi h p21 i22 5) = (zi h p25 i26 1)) rfl rfl rfl c29 ?_
    refine zA_tr (L := [none, none]) rfl rfl ?_
    refine zA_push rfl rfl zkk7 ?_
    cases H
    exact zA_ret rfl rfl
-- 1: ReleaseHouse$Artefact.clashWith(LReleaseHouse$Artefact;)I
def zm1 (x0 : zq) (x1 : zq) (h : zH) : zRs Int32 :=
  zob 0 x0 fun p21 i22 =>
  zob 0 x1 fun p25 i26 =>
  if (zi h p21 i22 1) = (zi h p25 i26 1) then
    if ((zi h p21 i22 6) &&& ((1 : Int32) <<< ((zi h p25 i26 7) &&& 31))) = 0 then
      some (.inl (1 : Int32), h)
    else
      if ((zi h p25 i26 6) &&& ((1 : Int32) <<< ((zi h p21 i22 7) &&& 31))) = 0 then
        some (.inl (2 : Int32), h)
      else
        some (.inl (0 : Int32), h)
  else
    if (zi h p21 i22 5) = (zi h p25 i26 1) then
      if ((zi h p21 i22 4) &&& ((zi h p25 i26 3) ^^^ (-1 : Int32))) = 0 then
        zm1_42 x0 x1 h
      else
        some (.inl (3 : Int32), h)
    else
      zm1_42 x0 x1 h
theorem zmS1 {x0 : zq} {x1 : zq} {h : zH} {r : Int32 ⊕ Nat} {h' : zH} (H : zm1 x0 x1 h = some (r, h')) : zAt 1 0 [some (zrv x0), some (zrv x1)] [] h (zoI r) h' := by
  unfold zm1 at H
  refine zA_aldn rfl rfl rfl ?_
  obtain ⟨p21, i22, e23, c24, H⟩ := zob_e H
  refine zA_gf0 rfl rfl (Or.inl rfl) e23 c24 ?_
  refine zA_aldn rfl rfl rfl ?_
  obtain ⟨p25, i26, e27, c28, H⟩ := zob_e H
  refine zA_gf0 rfl rfl (Or.inl rfl) e27 c28 ?_
  rcases zite_e H with ⟨c29, H⟩ | ⟨c29, H⟩
  · refine zA_brF' (c := (zi h p21 i22 1) = (zi h p25 i26 1)) rfl rfl rfl c29 ?_
    refine zA_aldn rfl rfl rfl ?_
    refine zA_gf0 rfl rfl (Or.inl rfl) e23 c24 ?_
    refine zA_push rfl rfl zkk5 ?_
    refine zA_aldn rfl rfl rfl ?_
    refine zA_gf0 rfl rfl (Or.inl rfl) e27 c28 ?_
    refine zA_st (st' := [zI ((1 : Int32) <<< ((zi h p25 i26 7) &&& 31)), zI (zi h p21 i22 6)]) rfl rfl rfl rfl ?_
    refine zA_st (st' := [zI ((zi h p21 i22 6) &&& ((1 : Int32) <<< ((zi h p25 i26 7) &&& 31)))]) rfl rfl rfl rfl ?_
    rcases zite_e H with ⟨c30, H⟩ | ⟨c30, H⟩
    · refine zA_brF' (c := ((zi h p21 i22 6) &&& ((1 : Int32) <<< ((zi h p25 i26 7) &&& 31))) = 0) rfl rfl rfl c30 ?_
      refine zA_push rfl rfl zkk5 ?_
      cases H
      exact zA_ret rfl rfl
    · refine zA_brT' (c := ((zi h p21 i22 6) &&& ((1 : Int32) <<< ((zi h p25 i26 7) &&& 31))) = 0) rfl rfl rfl c30 ?_
      refine zA_aldn rfl rfl rfl ?_
      refine zA_gf0 rfl rfl (Or.inl rfl) e27 c28 ?_
      refine zA_push rfl rfl zkk5 ?_
      refine zA_aldn rfl rfl rfl ?_
      refine zA_gf0 rfl rfl (Or.inl rfl) e23 c24 ?_
      refine zA_st (st' := [zI ((1 : Int32) <<< ((zi h p21 i22 7) &&& 31)), zI (zi h p25 i26 6)]) rfl rfl rfl rfl ?_
      refine zA_st (st' := [zI ((zi h p25 i26 6) &&& ((1 : Int32) <<< ((zi h p21 i22 7) &&& 31)))]) rfl rfl rfl rfl ?_
      rcases zite_e H with ⟨c31, H⟩ | ⟨c31, H⟩
      · refine zA_brF' (c := ((zi h p25 i26 6) &&& ((1 : Int32) <<< ((zi h p21 i22 7) &&& 31))) = 0) rfl rfl rfl c31 ?_
        refine zA_push rfl rfl zkk15 ?_
        refine zA_go rfl rfl ?_
        refine zA_tr (L := [none, none]) rfl rfl ?_
        cases H
        exact zA_ret rfl rfl
      · refine zA_brT' (c := ((zi h p25 i26 6) &&& ((1 : Int32) <<< ((zi h p21 i22 7) &&& 31))) = 0) rfl rfl rfl c31 ?_
        refine zA_tr (L := [none, none]) rfl rfl ?_
        refine zA_push rfl rfl zkk7 ?_
        cases H
        exact zA_ret rfl rfl
  · refine zA_brT' (c := (zi h p21 i22 1) = (zi h p25 i26 1)) rfl rfl rfl c29 ?_
    refine zA_aldn rfl rfl rfl ?_
    refine zA_gf0 rfl rfl (Or.inl rfl) e23 c24 ?_
    refine zA_aldn rfl rfl rfl ?_
    refine zA_gf0 rfl rfl (Or.inl rfl) e27 c28 ?_
    rcases zite_e H with ⟨c32, H⟩ | ⟨c32, H⟩
    · refine zA_brF' (c := (zi h p21 i22 5) = (zi h p25 i26 1)) rfl rfl rfl c32 ?_
      refine zA_aldn rfl rfl rfl ?_
      refine zA_gf0 rfl rfl (Or.inl rfl) e23 c24 ?_
      refine zA_aldn rfl rfl rfl ?_
      refine zA_gf0 rfl rfl (Or.inl rfl) e27 c28 ?_
      refine zA_push rfl rfl zkk6 ?_
      refine zA_st (st' := [zI ((zi h p25 i26 3) ^^^ (-1 : Int32)), zI (zi h p21 i22 4)]) rfl rfl rfl rfl ?_
      refine zA_st (st' := [zI ((zi h p21 i22 4) &&& ((zi h p25 i26 3) ^^^ (-1 : Int32)))]) rfl rfl rfl rfl ?_
      rcases zite_e H with ⟨c33, H⟩ | ⟨c33, H⟩
      · refine zA_brT (c := ((zi h p21 i22 4) &&& ((zi h p25 i26 3) ^^^ (-1 : Int32))) = 0) rfl rfl rfl c33 ?_
        exact zA_tr (L := [some (zrv x0), some (zrv x1)]) rfl rfl (zmS1_42 _ _ _ _ _ H)
      · refine zA_brF (c := ((zi h p21 i22 4) &&& ((zi h p25 i26 3) ^^^ (-1 : Int32))) = 0) rfl rfl rfl c33 ?_
        refine zA_push rfl rfl zkk3 ?_
        cases H
        exact zA_ret rfl rfl
    · refine zA_brT' (c := (zi h p21 i22 5) = (zi h p25 i26 1)) rfl rfl rfl c32 ?_
      exact zA_tr (L := [some (zrv x0), some (zrv x1)]) rfl rfl (zmS1_42 _ _ _ _ _ H)
theorem zmE1 (x0 : zq) (x1 : zq) : zpad (zPr.2.1 1).1 (zil [zrv x0, zrv x1]) = [some (zrv x0), some (zrv x1)] := by
  simp only [zil_A, zil_I, zil_F, zil_D, zil_N]
  rfl
def zm46_28 (k2 : zq → zq → zq → Int32 → zH → zRs Int32) (x0 : zq) (x1 : zq) (x2 : zq) (x3 : Int32) (h : zH) : zRs Int32 :=
  zlet (x3 + (1 : Int32)) fun x21 =>
  k2 x0 x1 x2 x21 h
theorem zmS46_28 {k2 : zq → zq → zq → Int32 → zH → zRs Int32} (hk2 : ∀ (x0 : zq) (x1 : zq) (x2 : zq) (x3 : Int32) (h : zH) (r : Int32 ⊕ Nat) (h' : zH), k2 x0 x1 x2 x3 h = some (r, h') → zAt 46 2 [some (zrv x0), some (zrv x1), some (zrv x2), some (zI x3), none] [] h (zoI r) h') : ∀ (x0 : zq) (x1 : zq) (x2 : zq) (x3 : Int32) (h : zH) (r : Int32 ⊕ Nat) (h' : zH), zm46_28 k2 x0 x1 x2 x3 h = some (r, h') → zAt 46 28 [some (zrv x0), some (zrv x1), some (zrv x2), some (zI x3), none] [] h (zoI r) h' := by
  intro x0 x1 x2 x3 h r h' H
  unfold zm46_28 at H
  obtain ⟨x21, e22, H⟩ := zlet_e H
  refine zA_inc rfl rfl rfl (e22.trans (congrArg (_ + ·) zkk8)) (zset1 (L' := [some (zrv x0), some (zrv x1), some (zrv x2), some (zI x21), none]) rfl rfl (zpcV rfl (zcat_rv _))) ?_
  refine zA_go rfl rfl ?_
  exact zA_tr (L := [some (zrv x0), some (zrv x1), some (zrv x2), some (zI x21), none]) rfl rfl (hk2 _ _ _ _ _ _ _ H)
def zm46_2 : Nat → zq → zq → zq → Int32 → zH → zRs Int32
  | 0, _, _, _, _, _ => none
  | n + 1, x0, x1, x2, x3, h =>
    zob 11 x0 fun p21 i22 =>
    zlz (zr h p21 i22 0) h fun v30 =>
    if v30 ≤ x3 then
      some (.inl (1 : Int32), h)
    else
      zlg (zr h p21 i22 0) x3 h fun v39 =>
      zob 0 v39 fun p41 i42 =>
      if (zi h p41 i42 10) ≤ 0 then
        zm46_28 (zm46_2 n) x0 x1 x2 x3 h
      else
        if v39 = x1 then
          zm46_28 (zm46_2 n) x0 x1 x2 x3 h
        else
          if v39 = x2 then
            zm46_28 (zm46_2 n) x0 x1 x2 x3 h
          else
            zob 0 x1 fun p48 i49 =>
            zb (zm1 x1 v39 h) fun x53 h52 =>
            if x53 = 0 then
              zm46_28 (zm46_2 n) x0 x1 x2 x3 h52
            else
              some (.inl (0 : Int32), h52)
theorem zmS46_2 : ∀ (n : Nat) (x0 : zq) (x1 : zq) (x2 : zq) (x3 : Int32) (h : zH) (r : Int32 ⊕ Nat) (h' : zH), zm46_2 n x0 x1 x2 x3 h = some (r, h') → zAt 46 2 [some (zrv x0), some (zrv x1), some (zrv x2), some (zI x3), none] [] h (zoI r) h' := by
  intro n
  induction n with
  | zero => intro x0 x1 x2 x3 h r h' H; cases H
  | succ n ih =>
    intro x0 x1 x2 x3 h r h' H
    unfold zm46_2 at H
    refine zA_ldn rfl rfl rfl ?_
    refine zA_aldn rfl rfl rfl ?_
    obtain ⟨p21, i22, e23, c24, H⟩ := zob_e H
    refine zA_gf3 rfl rfl e23 c24 ?_
    obtain ⟨p25, i26, v30, e27, c28, c29, e31, H⟩ := zlz_e H
    refine zA_l2 rfl rfl rfl e27 c28 c29 e31 ?_
    rcases zite_e H with ⟨c32, H⟩ | ⟨c32, H⟩
    · refine zA_brT (c := v30 ≤ x3) rfl rfl rfl c32 ?_
      refine zA_tr (L := [none, none, none, none, none]) rfl rfl ?_
      refine zA_push rfl rfl zkk5 ?_
      cases H
      exact zA_ret rfl (zret_Z (by decide))
    · refine zA_brF (c := v30 ≤ x3) rfl rfl rfl c32 ?_
      refine zA_aldn rfl rfl rfl ?_
      refine zA_gf3 rfl rfl e23 c24 ?_
      refine zA_ldn rfl rfl rfl ?_
      obtain ⟨p33, i34, v39, e35, c36, c37, c38, e40, H⟩ := zlg_e H
      refine zA_l3 rfl rfl rfl e35 c36 c37 c38 e40 ?_
      obtain ⟨p41, i42, e43, c44, H⟩ := zob_e H
      refine zA_cast rfl rfl e43 c44 ?_
      refine zA_ast2 rfl rfl rfl (zset1 (L' := [some (zrv x0), some (zrv x1), some (zrv x2), some (zI x3), some (zrv v39)]) (zcat_rv _) rfl (zpcV rfl rfl)) ?_
      refine zA_ald rfl rfl rfl ?_
      refine zA_gf0 rfl rfl (Or.inl rfl) e43 c44 ?_
      rcases zite_e H with ⟨c45, H⟩ | ⟨c45, H⟩
      · refine zA_brT (c := (zi h p41 i42 10) ≤ 0) rfl rfl rfl c45 ?_
        exact zA_tr (L := [some (zrv x0), some (zrv x1), some (zrv x2), some (zI x3), none]) rfl rfl (zmS46_28 ih _ _ _ _ _ _ _ H)
      · refine zA_brF (c := (zi h p41 i42 10) ≤ 0) rfl rfl rfl c45 ?_
        refine zA_ald rfl rfl rfl ?_
        refine zA_aldn rfl rfl rfl ?_
        rcases zite_e H with ⟨c46, H⟩ | ⟨c46, H⟩
        · refine zA_brT (c := v39 = x1) rfl rfl zIf_aeq c46 ?_
          exact zA_tr (L := [some (zrv x0), some (zrv x1), some (zrv x2), some (zI x3), none]) rfl rfl (zmS46_28 ih _ _ _ _ _ _ _ H)
        · refine zA_brF (c := v39 = x1) rfl rfl zIf_aeq c46 ?_
          refine zA_ald rfl rfl rfl ?_
          refine zA_aldn rfl rfl rfl ?_
          rcases zite_e H with ⟨c47, H⟩ | ⟨c47, H⟩
          · refine zA_brT (c := v39 = x2) rfl rfl zIf_aeq c47 ?_
            exact zA_tr (L := [some (zrv x0), some (zrv x1), some (zrv x2), some (zI x3), none]) rfl rfl (zmS46_28 ih _ _ _ _ _ _ _ H)
          · refine zA_brF (c := v39 = x2) rfl rfl zIf_aeq c47 ?_
            refine zA_aldn rfl rfl rfl ?_
            refine zA_ald rfl rfl rfl ?_
            obtain ⟨p48, i49, e50, c51, H⟩ := zob_e H
            rcases zb_e H with ⟨x53, h52, C, H⟩ | ⟨E, h52, C, H⟩
            · refine zA_callV (as := [zrv x1, zrv v39]) (st' := []) rfl rfl rfl (zrcv_Q e50 c51) rfl (zmE1 _ _) rfl (zmS1 C) ?_
              rcases zite_e H with ⟨c54, H⟩ | ⟨c54, H⟩
              · refine zA_brT (c := x53 = 0) rfl rfl rfl c54 ?_
                exact zA_tr (L := [some (zrv x0), some (zrv x1), some (zrv x2), some (zI x3), none]) rfl rfl (zmS46_28 ih _ _ _ _ _ _ _ H)
              · refine zA_brF (c := x53 = 0) rfl rfl rfl c54 ?_
                refine zA_push rfl rfl zkk7 ?_
                cases H
                exact zA_ret rfl (zret_Z (by decide))
            · cases H
              exact zA_callX (as := [zrv x1, zrv v39]) (st' := []) rfl rfl (zrcv_Q e50 c51) rfl (zmE1 _ _) rfl rfl rfl (zmS1 C)
-- 46: ReleaseHouse.fitsToLive(LReleaseHouse$Artefact;LReleaseHouse$Artefact;)Z
def zm46 (x0 : zq) (x1 : zq) (x2 : zq) (h : zH) : zRs Int32 :=
  zm46_2 zN0 x0 x1 x2 (0 : Int32) h
theorem zmS46 {x0 : zq} {x1 : zq} {x2 : zq} {h : zH} {r : Int32 ⊕ Nat} {h' : zH} (H : zm46 x0 x1 x2 h = some (r, h')) : zAt 46 0 [some (zrv x0), some (zrv x1), some (zrv x2), none, none] [] h (zoI r) h' := by
  unfold zm46 at H
  refine zA_push rfl rfl zkk7 ?_
  refine zA_istn2 rfl rfl rfl (zset1 (L' := [some (zrv x0), some (zrv x1), some (zrv x2), some (zI (0 : Int32)), none]) rfl rfl (zpcV rfl (zcat_rv _))) ?_
  exact zA_tr (L := [some (zrv x0), some (zrv x1), some (zrv x2), some (zI (0 : Int32)), none]) rfl rfl (zmS46_2 zN0 _ _ _ _ _ _ _ H)
theorem zmE46 (x0 : zq) (x1 : zq) (x2 : zq) : zpad (zPr.2.1 46).1 (zil [zrv x0, zrv x1, zrv x2]) = [some (zrv x0), some (zrv x1), some (zrv x2), none, none] := by
  simp only [zil_A, zil_I, zil_F, zil_D, zil_N]
  rfl
def zm25_22 (k4 : zq → zq → Int32 → Int32 → zH → zRs Int32) (x0 : zq) (x1 : zq) (x2 : Int32) (x3 : Int32) (h : zH) : zRs Int32 :=
  zlet (x3 + (1 : Int32)) fun x21 =>
  k4 x0 x1 x2 x21 h
theorem zmS25_22 {k4 : zq → zq → Int32 → Int32 → zH → zRs Int32} (hk4 : ∀ (x0 : zq) (x1 : zq) (x2 : Int32) (x3 : Int32) (h : zH) (r : Int32 ⊕ Nat) (h' : zH), k4 x0 x1 x2 x3 h = some (r, h') → zAt 25 4 [some (zrv x0), some (zrv x1), some (zI x2), some (zI x3)] [] h (zoI r) h') : ∀ (x0 : zq) (x1 : zq) (x2 : Int32) (x3 : Int32) (h : zH) (r : Int32 ⊕ Nat) (h' : zH), zm25_22 k4 x0 x1 x2 x3 h = some (r, h') → zAt 25 22 [some (zrv x0), some (zrv x1), some (zI x2), some (zI x3)] [] h (zoI r) h' := by
  intro x0 x1 x2 x3 h r h' H
  unfold zm25_22 at H
  obtain ⟨x21, e22, H⟩ := zlet_e H
  refine zA_inc rfl rfl rfl (e22.trans (congrArg (_ + ·) zkk8)) (zset1 (L' := [some (zrv x0), some (zrv x1), some (zI x2), some (zI x21)]) rfl rfl (zpcV rfl rfl)) ?_
  refine zA_go rfl rfl ?_
  exact zA_tr (L := [some (zrv x0), some (zrv x1), some (zI x2), some (zI x21)]) rfl rfl (hk4 _ _ _ _ _ _ _ H)
def zm25_16 (k4 : zq → zq → Int32 → Int32 → zH → zRs Int32) (x0 : zq) (x1 : zq) (x2 : Int32) (x3 : Int32) (h : zH) : zRs Int32 :=
  zlet (x2 ||| ((1 : Int32) <<< (x3 &&& 31))) fun x21 =>
  zm25_22 k4 x0 x1 x21 x3 h
theorem zmS25_16 {k4 : zq → zq → Int32 → Int32 → zH → zRs Int32} (hk4 : ∀ (x0 : zq) (x1 : zq) (x2 : Int32) (x3 : Int32) (h : zH) (r : Int32 ⊕ Nat) (h' : zH), k4 x0 x1 x2 x3 h = some (r, h') → zAt 25 4 [some (zrv x0), some (zrv x1), some (zI x2), some (zI x3)] [] h (zoI r) h') : ∀ (x0 : zq) (x1 : zq) (x2 : Int32) (x3 : Int32) (h : zH) (r : Int32 ⊕ Nat) (h' : zH), zm25_16 k4 x0 x1 x2 x3 h = some (r, h') → zAt 25 16 [some (zrv x0), some (zrv x1), some (zI x2), some (zI x3)] [] h (zoI r) h' := by
  intro x0 x1 x2 x3 h r h' H
  unfold zm25_16 at H
  refine zA_ldn rfl rfl rfl ?_
  refine zA_push rfl rfl zkk5 ?_
  refine zA_ldn rfl rfl rfl ?_
  refine zA_st (st' := [zI ((1 : Int32) <<< (x3 &&& 31)), zI x2]) rfl rfl rfl rfl ?_
  refine zA_st (st' := [zI (x2 ||| ((1 : Int32) <<< (x3 &&& 31)))]) rfl rfl rfl rfl ?_
  obtain ⟨x21, e22, H⟩ := zlet_e H
  refine zA_istn2 rfl rfl e22 (zset1 (L' := [some (zrv x0), some (zrv x1), some (zI x21), some (zI x3)]) rfl rfl (zpcV rfl (zcat_rv _))) ?_
  exact zA_tr (L := [some (zrv x0), some (zrv x1), some (zI x21), some (zI x3)]) rfl rfl (zmS25_22 hk4 _ _ _ _ _ _ _ H)
def zm25_4 (k24 : zq → zq → Int32 → zH → zRs Int32) : Nat → zq → zq → Int32 → Int32 → zH → zRs Int32
  | 0, _, _, _, _, _ => none
  | n + 1, x0, x1, x2, x3, h =>
    if (8 : Int32) ≤ x3 then
      k24 x0 x1 x2 h
    else
      zob 8 x0 fun p22 i23 =>
      zri (zr h p22 i23 1) x3 h fun v33 =>
      if 0 < v33 then
        zm25_16 (zm25_4 k24 n) x0 x1 x2 x3 h
      else
        if x3 = (zi h p22 i23 5) then
          zm25_16 (zm25_4 k24 n) x0 x1 x2 x3 h
        else
          zm25_22 (zm25_4 k24 n) x0 x1 x2 x3 h
theorem zmS25_4 {k24 : zq → zq → Int32 → zH → zRs Int32} (hk24 : ∀ (x0 : zq) (x1 : zq) (x2 : Int32) (h : zH) (r : Int32 ⊕ Nat) (h' : zH), k24 x0 x1 x2 h = some (r, h') → zAt 25 24 [some (zrv x0), some (zrv x1), some (zI x2), none] [] h (zoI r) h') : ∀ (n : Nat) (x0 : zq) (x1 : zq) (x2 : Int32) (x3 : Int32) (h : zH) (r : Int32 ⊕ Nat) (h' : zH), zm25_4 k24 n x0 x1 x2 x3 h = some (r, h') → zAt 25 4 [some (zrv x0), some (zrv x1), some (zI x2), some (zI x3)] [] h (zoI r) h' := by
  intro n
  induction n with
  | zero => intro x0 x1 x2 x3 h r h' H; cases H
  | succ n ih =>
    intro x0 x1 x2 x3 h r h' H
    unfold zm25_4 at H
    refine zA_ldn rfl rfl rfl ?_
    refine zA_push rfl rfl zkk0 ?_
    rcases zite_e H with ⟨c21, H⟩ | ⟨c21, H⟩
    · refine zA_brT (c := (8 : Int32) ≤ x3) rfl rfl rfl c21 ?_
      exact zA_tr (L := [some (zrv x0), some (zrv x1), some (zI x2), none]) rfl rfl (hk24 _ _ _ _ _ _ H)
    · refine zA_brF (c := (8 : Int32) ≤ x3) rfl rfl rfl c21 ?_
      refine zA_aldn rfl rfl rfl ?_
      obtain ⟨p22, i23, e24, c25, H⟩ := zob_e H
      refine zA_gf3 rfl rfl e24 c25 ?_
      refine zA_ldn rfl rfl rfl ?_
      obtain ⟨p26, i27, j28, v33, e29, c30, c31, e32, e34, H⟩ := zri_e H
      refine zA_ial rfl rfl e29 c30 c31 e32 e34 ?_
      rcases zite_e H with ⟨c35, H⟩ | ⟨c35, H⟩
      · refine zA_brT (c := 0 < v33) rfl rfl rfl c35 ?_
        exact zA_tr (L := [some (zrv x0), some (zrv x1), some (zI x2), some (zI x3)]) rfl rfl (zmS25_16 ih _ _ _ _ _ _ _ H)
      · refine zA_brF (c := 0 < v33) rfl rfl rfl c35 ?_
        refine zA_ldn rfl rfl rfl ?_
        refine zA_aldn rfl rfl rfl ?_
        refine zA_gf0 rfl rfl (Or.inl rfl) e24 c25 ?_
        rcases zite_e H with ⟨c36, H⟩ | ⟨c36, H⟩
        · refine zA_brF' (c := x3 = (zi h p22 i23 5)) rfl rfl rfl c36 ?_
          exact zA_tr (L := [some (zrv x0), some (zrv x1), some (zI x2), some (zI x3)]) rfl rfl (zmS25_16 ih _ _ _ _ _ _ _ H)
        · refine zA_brT' (c := x3 = (zi h p22 i23 5)) rfl rfl rfl c36 ?_
          exact zA_tr (L := [some (zrv x0), some (zrv x1), some (zI x2), some (zI x3)]) rfl rfl (zmS25_22 ih _ _ _ _ _ _ _ H)
def zm25_24 (x0 : zq) (x1 : zq) (x2 : Int32) (h : zH) : zRs Int32 :=
  zob 8 x0 fun p21 i22 =>
  zob 0 x1 fun p25 i26 =>
  zb2 (zm133 (zi h p21 i22 3) (zi h p25 i26 7) h) fun x30 h29 =>
  if x30 = 0 then
    some (.inl (0 : Int32), h29)
  else
    if (x2 &&& ((zi h29 p25 i26 6) ^^^ (-1 : Int32))) = 0 then
      some (.inl (1 : Int32), h29)
    else
      some (.inl (0 : Int32), h29)
theorem zmS25_24 : ∀ (x0 : zq) (x1 : zq) (x2 : Int32) (h : zH) (r : Int32 ⊕ Nat) (h' : zH), zm25_24 x0 x1 x2 h = some (r, h') → zAt 25 24 [some (zrv x0), some (zrv x1), some (zI x2), none] [] h (zoI r) h' := by
  intro x0 x1 x2 h r h' H
  unfold zm25_24 at H
  refine zA_aldn rfl rfl rfl ?_
  obtain ⟨p21, i22, e23, c24, H⟩ := zob_e H
  refine zA_gf0 rfl rfl (Or.inl rfl) e23 c24 ?_
  refine zA_aldn rfl rfl rfl ?_
  obtain ⟨p25, i26, e27, c28, H⟩ := zob_e H
  refine zA_gf0 rfl rfl (Or.inl rfl) e27 c28 ?_
  obtain ⟨x30, h29, C, H⟩ := zb2_e H
  refine zA_callV (as := [zI (zi h p21 i22 3), zI (zi h p25 i26 7)]) (st' := []) rfl rfl rfl rfl rfl (zmE133 _ _) rfl (zmS133 C) ?_
  rcases zite_e H with ⟨c31, H⟩ | ⟨c31, H⟩
  · refine zA_brT (c := x30 = 0) rfl rfl rfl c31 ?_
    refine zA_tr (L := [none, none, none, none]) rfl rfl ?_
    refine zA_push rfl rfl zkk7 ?_
    cases H
    exact zA_ret rfl (zret_Z (by decide))
  · refine zA_brF (c := x30 = 0) rfl rfl rfl c31 ?_
    refine zA_ldn rfl rfl rfl ?_
    refine zA_aldn rfl rfl rfl ?_
    refine zA_gf0 rfl rfl (Or.inl rfl) e27 c28 ?_
    refine zA_push rfl rfl zkk6 ?_
    refine zA_st (st' := [zI ((zi h29 p25 i26 6) ^^^ (-1 : Int32)), zI x2]) rfl rfl rfl rfl ?_
    refine zA_st (st' := [zI (x2 &&& ((zi h29 p25 i26 6) ^^^ (-1 : Int32)))]) rfl rfl rfl rfl ?_
    rcases zite_e H with ⟨c32, H⟩ | ⟨c32, H⟩
    · refine zA_brF' (c := (x2 &&& ((zi h29 p25 i26 6) ^^^ (-1 : Int32))) = 0) rfl rfl rfl c32 ?_
      refine zA_push rfl rfl zkk5 ?_
      refine zA_go rfl rfl ?_
      refine zA_tr (L := [none, none, none, none]) rfl rfl ?_
      cases H
      exact zA_ret rfl (zret_Z (by decide))
    · refine zA_brT' (c := (x2 &&& ((zi h29 p25 i26 6) ^^^ (-1 : Int32))) = 0) rfl rfl rfl c32 ?_
      refine zA_tr (L := [none, none, none, none]) rfl rfl ?_
      refine zA_push rfl rfl zkk7 ?_
      cases H
      exact zA_ret rfl (zret_Z (by decide))
-- 25: ReleaseHouse$Service.suitsData(LReleaseHouse$Artefact;)Z
def zm25 (x0 : zq) (x1 : zq) (h : zH) : zRs Int32 :=
  zm25_4 (zm25_24) zN0 x0 x1 (0 : Int32) (0 : Int32) h
theorem zmS25 {x0 : zq} {x1 : zq} {h : zH} {r : Int32 ⊕ Nat} {h' : zH} (H : zm25 x0 x1 h = some (r, h')) : zAt 25 0 [some (zrv x0), some (zrv x1), none, none] [] h (zoI r) h' := by
  unfold zm25 at H
  refine zA_push rfl rfl zkk7 ?_
  refine zA_istn2 rfl rfl rfl (zset1 (L' := [some (zrv x0), some (zrv x1), some (zI (0 : Int32)), none]) rfl rfl (zpcV rfl (zcat_rv _))) ?_
  refine zA_push rfl rfl zkk7 ?_
  refine zA_istn2 rfl rfl rfl (zset1 (L' := [some (zrv x0), some (zrv x1), some (zI (0 : Int32)), some (zI (0 : Int32))]) rfl rfl (zpcV rfl rfl)) ?_
  exact zA_tr (L := [some (zrv x0), some (zrv x1), some (zI (0 : Int32)), some (zI (0 : Int32))]) rfl rfl (zmS25_4 (zmS25_24) zN0 _ _ _ _ _ _ _ H)
theorem zmE25 (x0 : zq) (x1 : zq) : zpad (zPr.2.1 25).1 (zil [zrv x0, zrv x1]) = [some (zrv x0), some (zrv x1), none, none] := by
  simp only [zil_A, zil_I, zil_F, zil_D, zil_N]
  rfl
def zm47_28 (k7 : zq → zq → Int32 → zH → zRs Int32) (x0 : zq) (x1 : zq) (x2 : Int32) (h : zH) : zRs Int32 :=
  zlet (x2 + (1 : Int32)) fun x21 =>
  k7 x0 x1 x21 h
theorem zmS47_28 {k7 : zq → zq → Int32 → zH → zRs Int32} (hk7 : ∀ (x0 : zq) (x1 : zq) (x2 : Int32) (h : zH) (r : Int32 ⊕ Nat) (h' : zH), k7 x0 x1 x2 h = some (r, h') → zAt 47 7 [some (zrv x0), some (zrv x1), some (zI x2), none] [] h (zoI r) h') : ∀ (x0 : zq) (x1 : zq) (x2 : Int32) (h : zH) (r : Int32 ⊕ Nat) (h' : zH), zm47_28 k7 x0 x1 x2 h = some (r, h') → zAt 47 28 [some (zrv x0), some (zrv x1), some (zI x2), none] [] h (zoI r) h' := by
  intro x0 x1 x2 h r h' H
  unfold zm47_28 at H
  obtain ⟨x21, e22, H⟩ := zlet_e H
  refine zA_inc rfl rfl rfl (e22.trans (congrArg (_ + ·) zkk8)) (zset1 (L' := [some (zrv x0), some (zrv x1), some (zI x21), none]) rfl rfl (zpcV rfl (zcat_rv _))) ?_
  refine zA_go rfl rfl ?_
  exact zA_tr (L := [some (zrv x0), some (zrv x1), some (zI x21), none]) rfl rfl (hk7 _ _ _ _ _ _ H)
def zm47_7 : Nat → zq → zq → Int32 → zH → zRs Int32
  | 0, _, _, _, _ => none
  | n + 1, x0, x1, x2, h =>
    zob 11 x0 fun p21 i22 =>
    zlz (zr h p21 i22 0) h fun v30 =>
    if v30 ≤ x2 then
      some (.inl (0 : Int32), h)
    else
      zlg (zr h p21 i22 0) x2 h fun v39 =>
      zob 0 v39 fun p41 i42 =>
      if (zi h p41 i42 10) ≤ 0 then
        zm47_28 (zm47_7 n) x0 x1 x2 h
      else
        zob 0 x1 fun p46 i47 =>
        if (zi h p41 i42 1) = (zi h p46 i47 5) then
          some (.inl (1 : Int32), h)
        else
          zm47_28 (zm47_7 n) x0 x1 x2 h
theorem zmS47_7 : ∀ (n : Nat) (x0 : zq) (x1 : zq) (x2 : Int32) (h : zH) (r : Int32 ⊕ Nat) (h' : zH), zm47_7 n x0 x1 x2 h = some (r, h') → zAt 47 7 [some (zrv x0), some (zrv x1), some (zI x2), none] [] h (zoI r) h' := by
  intro n
  induction n with
  | zero => intro x0 x1 x2 h r h' H; cases H
  | succ n ih =>
    intro x0 x1 x2 h r h' H
    unfold zm47_7 at H
    refine zA_ldn rfl rfl rfl ?_
    refine zA_aldn rfl rfl rfl ?_
    obtain ⟨p21, i22, e23, c24, H⟩ := zob_e H
    refine zA_gf3 rfl rfl e23 c24 ?_
    obtain ⟨p25, i26, v30, e27, c28, c29, e31, H⟩ := zlz_e H
    refine zA_l2 rfl rfl rfl e27 c28 c29 e31 ?_
    rcases zite_e H with ⟨c32, H⟩ | ⟨c32, H⟩
    · refine zA_brT (c := v30 ≤ x2) rfl rfl rfl c32 ?_
      refine zA_tr (L := [none, none, none, none]) rfl rfl ?_
      refine zA_push rfl rfl zkk7 ?_
      cases H
      exact zA_ret rfl (zret_Z (by decide))
    · refine zA_brF (c := v30 ≤ x2) rfl rfl rfl c32 ?_
      refine zA_aldn rfl rfl rfl ?_
      refine zA_gf3 rfl rfl e23 c24 ?_
      refine zA_ldn rfl rfl rfl ?_
      obtain ⟨p33, i34, v39, e35, c36, c37, c38, e40, H⟩ := zlg_e H
      refine zA_l3 rfl rfl rfl e35 c36 c37 c38 e40 ?_
      obtain ⟨p41, i42, e43, c44, H⟩ := zob_e H
      refine zA_cast rfl rfl e43 c44 ?_
      refine zA_astn2 rfl rfl rfl (zset1 (L' := [some (zrv x0), some (zrv x1), some (zI x2), some (zrv v39)]) (zcat_rv _) rfl (zpcV rfl rfl)) ?_
      refine zA_aldn rfl rfl rfl ?_
      refine zA_gf0 rfl rfl (Or.inl rfl) e43 c44 ?_
      rcases zite_e H with ⟨c45, H⟩ | ⟨c45, H⟩
      · refine zA_brT (c := (zi h p41 i42 10) ≤ 0) rfl rfl rfl c45 ?_
        exact zA_tr (L := [some (zrv x0), some (zrv x1), some (zI x2), none]) rfl rfl (zmS47_28 ih _ _ _ _ _ _ H)
      · refine zA_brF (c := (zi h p41 i42 10) ≤ 0) rfl rfl rfl c45 ?_
        refine zA_aldn rfl rfl rfl ?_
        refine zA_gf0 rfl rfl (Or.inl rfl) e43 c44 ?_
        refine zA_aldn rfl rfl rfl ?_
        obtain ⟨p46, i47, e48, c49, H⟩ := zob_e H
        refine zA_gf0 rfl rfl (Or.inl rfl) e48 c49 ?_
        rcases zite_e H with ⟨c50, H⟩ | ⟨c50, H⟩
        · refine zA_brF' (c := (zi h p41 i42 1) = (zi h p46 i47 5)) rfl rfl rfl c50 ?_
          refine zA_push rfl rfl zkk5 ?_
          cases H
          exact zA_ret rfl (zret_Z (by decide))
        · refine zA_brT' (c := (zi h p41 i42 1) = (zi h p46 i47 5)) rfl rfl rfl c50 ?_
          exact zA_tr (L := [some (zrv x0), some (zrv x1), some (zI x2), none]) rfl rfl (zmS47_28 ih _ _ _ _ _ _ H)
-- 47: ReleaseHouse.hasWhatItNeeds(LReleaseHouse$Artefact;)Z
def zm47 (x0 : zq) (x1 : zq) (h : zH) : zRs Int32 :=
  zob 0 x1 fun p21 i22 =>
  if (zi h p21 i22 4) = 0 then
    some (.inl (1 : Int32), h)
  else
    zm47_7 zN0 x0 x1 (0 : Int32) h
theorem zmS47 {x0 : zq} {x1 : zq} {h : zH} {r : Int32 ⊕ Nat} {h' : zH} (H : zm47 x0 x1 h = some (r, h')) : zAt 47 0 [some (zrv x0), some (zrv x1), none, none] [] h (zoI r) h' := by
  unfold zm47 at H
  refine zA_aldn rfl rfl rfl ?_
  obtain ⟨p21, i22, e23, c24, H⟩ := zob_e H
  refine zA_gf0 rfl rfl (Or.inl rfl) e23 c24 ?_
  rcases zite_e H with ⟨c25, H⟩ | ⟨c25, H⟩
  · refine zA_brF' (c := (zi h p21 i22 4) = 0) rfl rfl rfl c25 ?_
    refine zA_push rfl rfl zkk5 ?_
    cases H
    exact zA_ret rfl (zret_Z (by decide))
  · refine zA_brT' (c := (zi h p21 i22 4) = 0) rfl rfl rfl c25 ?_
    refine zA_push rfl rfl zkk7 ?_
    refine zA_istn2 rfl rfl rfl (zset1 (L' := [some (zrv x0), some (zrv x1), some (zI (0 : Int32)), none]) rfl rfl (zpcV rfl (zcat_rv _))) ?_
    exact zA_tr (L := [some (zrv x0), some (zrv x1), some (zI (0 : Int32)), none]) rfl rfl (zmS47_7 zN0 _ _ _ _ _ _ H)
theorem zmE47 (x0 : zq) (x1 : zq) : zpad (zPr.2.1 47).1 (zil [zrv x0, zrv x1]) = [some (zrv x0), some (zrv x1), none, none] := by
  simp only [zil_A, zil_I, zil_F, zil_D, zil_N]
  rfl
-- 45: ReleaseHouse.reasonNotToGo(LReleaseHouse$Artefact;)I
def zm45 (x0 : zq) (x1 : zq) (h : zH) : zRs Int32 :=
  zob 0 x1 fun p21 i22 =>
  if (zi h p21 i22 10) ≤ 0 then
    zob 11 x0 fun p26 i27 =>
    zb (zm46 x0 x1 (none : zq) h) fun x31 h30 =>
    if x31 = 0 then
      some (.inl (6 : Int32), h30)
    else
      zra (zr h30 p26 i27 6) (zi h30 p21 i22 1) h30 fun v40 =>
      zob 8 v40 fun p42 i43 =>
      zb (zm25 v40 x1 h30) fun x47 h46 =>
      if x47 = 0 then
        some (.inl (7 : Int32), h46)
      else
        zb (zm47 x0 x1 h46) fun x50 h49 =>
        if x50 = 0 then
          some (.inl (7 : Int32), h49)
        else
          some (.inl (0 : Int32), h49)
  else
    some (.inl (0 : Int32), h)
theorem zmS45 {x0 : zq} {x1 : zq} {h : zH} {r : Int32 ⊕ Nat} {h' : zH} (H : zm45 x0 x1 h = some (r, h')) : zAt 45 0 [some (zrv x0), some (zrv x1)] [] h (zoI r) h' := by
  unfold zm45 at H
  refine zA_aldn rfl rfl rfl ?_
  obtain ⟨p21, i22, e23, c24, H⟩ := zob_e H
  refine zA_gf0 rfl rfl (Or.inl rfl) e23 c24 ?_
  rcases zite_e H with ⟨c25, H⟩ | ⟨c25, H⟩
  · refine zA_brT (c := (zi h p21 i22 10) ≤ 0) rfl rfl rfl c25 ?_
    refine zA_aldn rfl rfl rfl ?_
    refine zA_aldn rfl rfl rfl ?_
    refine zA_push rfl rfl zkk22 ?_
    obtain ⟨p26, i27, e28, c29, H⟩ := zob_e H
    rcases zb_e H with ⟨x31, h30, C, H⟩ | ⟨E, h30, C, H⟩
    · refine zA_callV (as := [zrv x0, zrv x1, zrv (none : zq)]) (st' := []) rfl rfl rfl (zrcv_Q e28 c29) rfl (zmE46 _ _ _) rfl (zmS46 C) ?_
      rcases zite_e H with ⟨c32, H⟩ | ⟨c32, H⟩
      · refine zA_brF' (c := x31 = 0) rfl rfl rfl c32 ?_
        refine zA_push rfl rfl zkk14 ?_
        cases H
        exact zA_ret rfl rfl
      · refine zA_brT' (c := x31 = 0) rfl rfl rfl c32 ?_
        refine zA_aldn rfl rfl rfl ?_
        refine zA_gf3 rfl rfl e28 c29 ?_
        refine zA_aldn rfl rfl rfl ?_
        refine zA_gf0 rfl rfl (Or.inl rfl) e23 c24 ?_
        obtain ⟨p33, i34, j35, v40, e36, c37, c38, e39, e41, H⟩ := zra_e H
        refine zA_aal rfl rfl e36 c37 c38 e39 e41 ?_
        refine zA_aldn rfl rfl rfl ?_
        obtain ⟨p42, i43, e44, c45, H⟩ := zob_e H
        rcases zb_e H with ⟨x47, h46, C, H⟩ | ⟨E, h46, C, H⟩
        · refine zA_callV (as := [zrv v40, zrv x1]) (st' := []) rfl rfl rfl (zrcv_Q e44 c45) rfl (zmE25 _ _) rfl (zmS25 C) ?_
          rcases zite_e H with ⟨c48, H⟩ | ⟨c48, H⟩
          · refine zA_brT (c := x47 = 0) rfl rfl rfl c48 ?_
            refine zA_tr (L := [none, none]) rfl rfl ?_
            refine zA_push rfl rfl zkk20 ?_
            cases H
            exact zA_ret rfl rfl
          · refine zA_brF (c := x47 = 0) rfl rfl rfl c48 ?_
            refine zA_aldn rfl rfl rfl ?_
            refine zA_aldn rfl rfl rfl ?_
            rcases zb_e H with ⟨x50, h49, C, H⟩ | ⟨E, h49, C, H⟩
            · refine zA_callV (as := [zrv x0, zrv x1]) (st' := []) rfl rfl rfl (zrcv_Q e28 c29) rfl (zmE47 _ _) rfl (zmS47 C) ?_
              rcases zite_e H with ⟨c51, H⟩ | ⟨c51, H⟩
              · refine zA_brF' (c := x50 = 0) rfl rfl rfl c51 ?_
                refine zA_tr (L := [none, none]) rfl rfl ?_
                refine zA_push rfl rfl zkk20 ?_
                cases H
                exact zA_ret rfl rfl
              · refine zA_brT' (c := x50 = 0) rfl rfl rfl c51 ?_
                refine zA_tr (L := [none, none]) rfl rfl ?_
                refine zA_push rfl rfl zkk7 ?_
                cases H
                exact zA_ret rfl rfl
            · cases H
              exact zA_callX (as := [zrv x0, zrv x1]) (st' := []) rfl rfl (zrcv_Q e28 c29) rfl (zmE47 _ _) rfl rfl rfl (zmS47 C)
        · cases H
          exact zA_callX (as := [zrv v40, zrv x1]) (st' := []) rfl rfl (zrcv_Q e44 c45) rfl (zmE25 _ _) rfl rfl rfl (zmS25 C)
    · cases H
      exact zA_callX (as := [zrv x0, zrv x1, zrv (none : zq)]) (st' := []) rfl rfl (zrcv_Q e28 c29) rfl (zmE46 _ _ _) rfl rfl rfl (zmS46 C)
  · refine zA_brF (c := (zi h p21 i22 10) ≤ 0) rfl rfl rfl c25 ?_
    refine zA_push rfl rfl zkk7 ?_
    cases H
    exact zA_ret rfl rfl
theorem zmE45 (x0 : zq) (x1 : zq) : zpad (zPr.2.1 45).1 (zil [zrv x0, zrv x1]) = [some (zrv x0), some (zrv x1)] := by
  simp only [zil_A, zil_I, zil_F, zil_D, zil_N]
  rfl
def zm65_52 (x0 : zq) (x2 : Int32) (x3 : Int32) (x4 : zq) (x7 : zq) (h : zH) : zRs Int32 :=
  zob 11 x0 fun p21 i22 =>
  zb (zm68 x0 x4 x2 x3 x7 h) fun x26 h25 =>
  if x26 = 0 then
    some (.inl (5 : Int32), h25)
  else
    zb (zm45 x0 x4 h25) fun x29 h28 =>
    some (.inl x29, h28)
theorem zmS65_52 : ∀ (x0 : zq) (x2 : Int32) (x3 : Int32) (x4 : zq) (x7 : zq) (h : zH) (r : Int32 ⊕ Nat) (h' : zH), zm65_52 x0 x2 x3 x4 x7 h = some (r, h') → zAt 65 52 [some (zrv x0), none, some (zI x2), some (zI x3), some (zrv x4), none, none, some (zrv x7)] [] h (zoI r) h' := by
  intro x0 x2 x3 x4 x7 h r h' H
  unfold zm65_52 at H
  refine zA_aldn rfl rfl rfl ?_
  refine zA_ald rfl rfl rfl ?_
  refine zA_ldn rfl rfl rfl ?_
  refine zA_ldn rfl rfl rfl ?_
  refine zA_ald rfl rfl rfl ?_
  obtain ⟨p21, i22, e23, c24, H⟩ := zob_e H
  rcases zb_e H with ⟨x26, h25, C, H⟩ | ⟨E, h25, C, H⟩
  · refine zA_callV (as := [zrv x0, zrv x4, zI x2, zI x3, zrv x7]) (st' := []) rfl rfl rfl (zrcv_Q e23 c24) rfl (zmE68 _ _ _ _ _) rfl (zmS68 C) ?_
    rcases zite_e H with ⟨c27, H⟩ | ⟨c27, H⟩
    · refine zA_brF' (c := x26 = 0) rfl rfl rfl c27 ?_
      refine zA_push rfl rfl zkk16 ?_
      cases H
      exact zA_ret rfl rfl
    · refine zA_brT' (c := x26 = 0) rfl rfl rfl c27 ?_
      refine zA_tr (L := [some (zrv x0), none, none, none, some (zrv x4), none, none, none]) rfl rfl ?_
      refine zA_aldn rfl rfl rfl ?_
      refine zA_ald rfl rfl rfl ?_
      rcases zb_e H with ⟨x29, h28, C, H⟩ | ⟨E, h28, C, H⟩
      · refine zA_callV (as := [zrv x0, zrv x4]) (st' := []) rfl rfl rfl (zrcv_Q e23 c24) rfl (zmE45 _ _) rfl (zmS45 C) ?_
        cases H
        exact zA_ret rfl rfl
      · cases H
        exact zA_callX (as := [zrv x0, zrv x4]) (st' := []) rfl rfl (zrcv_Q e23 c24) rfl (zmE45 _ _) rfl rfl rfl (zmS45 C)
  · cases H
    exact zA_callX (as := [zrv x0, zrv x4, zI x2, zI x3, zrv x7]) (st' := []) rfl rfl (zrcv_Q e23 c24) rfl (zmE68 _ _ _ _ _) rfl rfl rfl (zmS68 C)
-- 65: ReleaseHouse.reasonNotToPut(LReleaseHouse$Release;II)I
def zm65 (x0 : zq) (x1 : zq) (x2 : Int32) (x3 : Int32) (h : zH) : zRs Int32 :=
  zob 5 x1 fun p21 i22 =>
  zlet (zr h p21 i22 0) fun x25 =>
  zob 11 x0 fun p27 i28 =>
  zob 0 x25 fun p31 i32 =>
  zra (zr h p27 i28 6) (zi h p31 i32 1) h fun v42 =>
  zob 8 v42 fun p44 i45 =>
  zra (zr h p44 i45 0) x2 h fun v55 =>
  zob 9 v55 fun p57 i58 =>
  if (zr h p57 i58 0) = x25 then
    some (.inl (0 : Int32), h)
  else
    zb (zm28 v55 x25 h) fun x63 h62 =>
    if x63 = 0 then
      if (zi h62 p44 i45 7) = 0 then
        zb (zm67 x0 x1 x2 h62) fun x67 h66 =>
        if x67 = 0 then
          zb (zm66 x0 x25 v55 h66) fun x70 h69 =>
          if x70 = none then
            zm65_52 x0 x2 x3 x25 x70 h69
          else
            if (zi h69 p31 i32 8) = 0 then
              some (.inl (4 : Int32), h69)
            else
              zob 5 x70 fun p73 i74 =>
              zob 0 (zr h69 p73 i74 0) fun p77 i78 =>
              if (zi h69 p77 i78 8) = 0 then
                zm65_52 x0 x2 x3 x25 x70 h69
              else
                some (.inl (4 : Int32), h69)
        else
          some (.inl (3 : Int32), h66)
      else
        some (.inl (2 : Int32), h62)
    else
      some (.inl (0 : Int32), h62)
theorem zmS65 {x0 : zq} {x1 : zq} {x2 : Int32} {x3 : Int32} {h : zH} {r : Int32 ⊕ Nat} {h' : zH} (H : zm65 x0 x1 x2 x3 h = some (r, h')) : zAt 65 0 [some (zrv x0), some (zrv x1), some (zI x2), some (zI x3), none, none, none, none] [] h (zoI r) h' := by
  unfold zm65 at H
  refine zA_aldn rfl rfl rfl ?_
  obtain ⟨p21, i22, e23, c24, H⟩ := zob_e H
  refine zA_gf3 rfl rfl e23 c24 ?_
  obtain ⟨x25, e26, H⟩ := zlet_e H
  refine zA_ast2 rfl rfl e26 (zset1 (L' := [some (zrv x0), some (zrv x1), some (zI x2), some (zI x3), some (zrv x25), none, none, none]) (zcat_rv _) rfl (zpcV rfl rfl)) ?_
  refine zA_aldn rfl rfl rfl ?_
  obtain ⟨p27, i28, e29, c30, H⟩ := zob_e H
  refine zA_gf3 rfl rfl e29 c30 ?_
  refine zA_ald rfl rfl rfl ?_
  obtain ⟨p31, i32, e33, c34, H⟩ := zob_e H
  refine zA_gf0 rfl rfl (Or.inl rfl) e33 c34 ?_
  obtain ⟨p35, i36, j37, v42, e38, c39, c40, e41, e43, H⟩ := zra_e H
  refine zA_aal rfl rfl e38 c39 c40 e41 e43 ?_
  refine zA_ast2 rfl rfl rfl (zset1 (L' := [some (zrv x0), some (zrv x1), some (zI x2), some (zI x3), some (zrv x25), some (zrv v42), none, none]) (zcat_rv _) rfl (zpcV rfl (zcat_rv _))) ?_
  refine zA_ald rfl rfl rfl ?_
  obtain ⟨p44, i45, e46, c47, H⟩ := zob_e H
  refine zA_gf3 rfl rfl e46 c47 ?_
  refine zA_ldn rfl rfl rfl ?_
  obtain ⟨p48, i49, j50, v55, e51, c52, c53, e54, e56, H⟩ := zra_e H
  refine zA_aal rfl rfl e51 c52 c53 e54 e56 ?_
  refine zA_ast2 rfl rfl rfl (zset1 (L' := [some (zrv x0), some (zrv x1), some (zI x2), some (zI x3), some (zrv x25), some (zrv v42), some (zrv v55), none]) (zcat_rv _) rfl (zpcV rfl (zcat_rv _))) ?_
  refine zA_ald rfl rfl rfl ?_
  obtain ⟨p57, i58, e59, c60, H⟩ := zob_e H
  refine zA_gf3 rfl rfl e59 c60 ?_
  refine zA_ald rfl rfl rfl ?_
  rcases zite_e H with ⟨c61, H⟩ | ⟨c61, H⟩
  · refine zA_brT (c := (zr h p57 i58 0) = x25) rfl rfl zIf_aeq c61 ?_
    refine zA_tr (L := [none, none, none, none, none, none, none, none]) rfl rfl ?_
    refine zA_push rfl rfl zkk7 ?_
    cases H
    exact zA_ret rfl rfl
  · refine zA_brF (c := (zr h p57 i58 0) = x25) rfl rfl zIf_aeq c61 ?_
    refine zA_ald rfl rfl rfl ?_
    refine zA_ald rfl rfl rfl ?_
    rcases zb_e H with ⟨x63, h62, C, H⟩ | ⟨E, h62, C, H⟩
    · refine zA_callV (as := [zrv v55, zrv x25]) (st' := []) rfl rfl rfl (zrcv_Q e59 c60) rfl (zmE28 _ _) rfl (zmS28 C) ?_
      rcases zite_e H with ⟨c64, H⟩ | ⟨c64, H⟩
      · refine zA_brT (c := x63 = 0) rfl rfl rfl c64 ?_
        refine zA_ald rfl rfl rfl ?_
        refine zA_gf0 rfl rfl (Or.inr rfl) e46 c47 ?_
        rcases zite_e H with ⟨c65, H⟩ | ⟨c65, H⟩
        · refine zA_brT (c := (zi h62 p44 i45 7) = 0) rfl rfl rfl c65 ?_
          refine zA_tr (L := [some (zrv x0), some (zrv x1), some (zI x2), some (zI x3), some (zrv x25), none, some (zrv v55), none]) rfl rfl ?_
          refine zA_aldn rfl rfl rfl ?_
          refine zA_aldn rfl rfl rfl ?_
          refine zA_ldn rfl rfl rfl ?_
          rcases zb_e H with ⟨x67, h66, C, H⟩ | ⟨E, h66, C, H⟩
          · refine zA_callV (as := [zrv x0, zrv x1, zI x2]) (st' := []) rfl rfl rfl (zrcv_Q e29 c30) rfl (zmE67 _ _ _) rfl (zmS67 C) ?_
            rcases zite_e H with ⟨c68, H⟩ | ⟨c68, H⟩
            · refine zA_brT (c := x67 = 0) rfl rfl rfl c68 ?_
              refine zA_tr (L := [some (zrv x0), none, some (zI x2), some (zI x3), some (zrv x25), none, some (zrv v55), none]) rfl rfl ?_
              refine zA_aldn rfl rfl rfl ?_
              refine zA_ald rfl rfl rfl ?_
              refine zA_ald rfl rfl rfl ?_
              rcases zb_e H with ⟨x70, h69, C, H⟩ | ⟨E, h69, C, H⟩
              · refine zA_callV (as := [zrv x0, zrv x25, zrv v55]) (st' := []) rfl rfl rfl (zrcv_Q e29 c30) rfl (zmE66 _ _ _) rfl (zmS66 C) ?_
                refine zA_ast2 rfl rfl rfl (zset1 (L' := [some (zrv x0), none, some (zI x2), some (zI x3), some (zrv x25), none, some (zrv v55), some (zrv x70)]) (zcat_rv _) rfl (zpcV rfl (zcat_rv _))) ?_
                refine zA_ald rfl rfl rfl ?_
                rcases zite_e H with ⟨c71, H⟩ | ⟨c71, H⟩
                · refine zA_brT (c := x70 = none) rfl rfl zIf_null c71 ?_
                  exact zA_tr (L := [some (zrv x0), none, some (zI x2), some (zI x3), some (zrv x25), none, none, some (zrv x70)]) rfl rfl (zmS65_52 _ _ _ _ _ _ _ _ H)
                · refine zA_brF (c := x70 = none) rfl rfl zIf_null c71 ?_
                  refine zA_ald rfl rfl rfl ?_
                  refine zA_gf0 rfl rfl (Or.inr rfl) e33 c34 ?_
                  rcases zite_e H with ⟨c72, H⟩ | ⟨c72, H⟩
                  · refine zA_brT (c := (zi h69 p31 i32 8) = 0) rfl rfl rfl c72 ?_
                    refine zA_tr (L := [none, none, none, none, none, none, none, none]) rfl rfl ?_
                    refine zA_push rfl rfl zkk9 ?_
                    cases H
                    exact zA_ret rfl rfl
                  · refine zA_brF (c := (zi h69 p31 i32 8) = 0) rfl rfl rfl c72 ?_
                    refine zA_ald rfl rfl rfl ?_
                    obtain ⟨p73, i74, e75, c76, H⟩ := zob_e H
                    refine zA_gf3 rfl rfl e75 c76 ?_
                    obtain ⟨p77, i78, e79, c80, H⟩ := zob_e H
                    refine zA_gf0 rfl rfl (Or.inr rfl) e79 c80 ?_
                    rcases zite_e H with ⟨c81, H⟩ | ⟨c81, H⟩
                    · refine zA_brT (c := (zi h69 p77 i78 8) = 0) rfl rfl rfl c81 ?_
                      exact zA_tr (L := [some (zrv x0), none, some (zI x2), some (zI x3), some (zrv x25), none, none, some (zrv x70)]) rfl rfl (zmS65_52 _ _ _ _ _ _ _ _ H)
                    · refine zA_brF (c := (zi h69 p77 i78 8) = 0) rfl rfl rfl c81 ?_
                      refine zA_tr (L := [none, none, none, none, none, none, none, none]) rfl rfl ?_
                      refine zA_push rfl rfl zkk9 ?_
                      cases H
                      exact zA_ret rfl rfl
              · cases H
                exact zA_callX (as := [zrv x0, zrv x25, zrv v55]) (st' := []) rfl rfl (zrcv_Q e29 c30) rfl (zmE66 _ _ _) rfl rfl rfl (zmS66 C)
            · refine zA_brF (c := x67 = 0) rfl rfl rfl c68 ?_
              refine zA_push rfl rfl zkk3 ?_
              cases H
              exact zA_ret rfl rfl
          · cases H
            exact zA_callX (as := [zrv x0, zrv x1, zI x2]) (st' := []) rfl rfl (zrcv_Q e29 c30) rfl (zmE67 _ _ _) rfl rfl rfl (zmS67 C)
        · refine zA_brF (c := (zi h62 p44 i45 7) = 0) rfl rfl rfl c65 ?_
          refine zA_push rfl rfl zkk15 ?_
          cases H
          exact zA_ret rfl rfl
      · refine zA_brF (c := x63 = 0) rfl rfl rfl c64 ?_
        refine zA_tr (L := [none, none, none, none, none, none, none, none]) rfl rfl ?_
        refine zA_push rfl rfl zkk7 ?_
        cases H
        exact zA_ret rfl rfl
    · cases H
      exact zA_callX (as := [zrv v55, zrv x25]) (st' := []) rfl rfl (zrcv_Q e59 c60) rfl (zmE28 _ _) rfl rfl rfl (zmS28 C)
theorem zmE65 (x0 : zq) (x1 : zq) (x2 : Int32) (x3 : Int32) : zpad (zPr.2.1 65).1 (zil [zrv x0, zrv x1, zI x2, zI x3]) = [some (zrv x0), some (zrv x1), some (zI x2), some (zI x3), none, none, none, none] := by
  simp only [zil_A, zil_I, zil_F, zil_D, zil_N]
  rfl
