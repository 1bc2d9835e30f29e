set_option maxRecDepth 16384
/-! The methods read back (printed by wip/whole/gen/dec.py). -/
theorem zkk0 : ∀ (pc : Nat) (L : zLs) (st : List zV) (h : zH), zsLoc (.bipush 8) [] pc L st h = some (pc + 1, L, zI (8 : Int32) :: st, h) := by
  intro pc L st h
  have e : (Int8.ofInt 8).toInt32 = (8 : Int32) := by decide
  show some (pc + 1, L, zI ((Int8.ofInt 8).toInt32) :: st, h) = _
  rw [e]
theorem zkk1 : ∀ (pc : Nat) (L : zLs) (st : List zV) (h : zH), zsLoc (.bipush 17) [] pc L st h = some (pc + 1, L, zI (17 : Int32) :: st, h) := by
  intro pc L st h
  have e : (Int8.ofInt 17).toInt32 = (17 : Int32) := by decide
  show some (pc + 1, L, zI ((Int8.ofInt 17).toInt32) :: st, h) = _
  rw [e]
theorem zkk2 : ∀ (pc : Nat) (L : zLs) (st : List zV) (h : zH), zsLoc (.dconst 1) [] pc L st h = some (pc + 1, L, zD (4607182418800017408 : UInt64) :: st, h) := by
  intro pc L st h
  rfl
theorem zkk3 : ∀ (pc : Nat) (L : zLs) (st : List zV) (h : zH), zsLoc (.iconst 3) [] pc L st h = some (pc + 1, L, zI (3 : Int32) :: st, h) := by
  intro pc L st h
  have e : (Int32.ofInt 3) = (3 : Int32) := by decide
  show some (pc + 1, L, zI ((Int32.ofInt 3)) :: st, h) = _
  rw [e]
theorem zkk4 : ∀ (pc : Nat) (L : zLs) (st : List zV) (h : zH), zsLoc (.sipush 200) [] pc L st h = some (pc + 1, L, zI (200 : Int32) :: st, h) := by
  intro pc L st h
  have e : (Int16.ofInt 200).toInt32 = (200 : Int32) := by decide
  show some (pc + 1, L, zI ((Int16.ofInt 200).toInt32) :: st, h) = _
  rw [e]
theorem zkk5 : ∀ (pc : Nat) (L : zLs) (st : List zV) (h : zH), zsLoc (.iconst 1) [] pc L st h = some (pc + 1, L, zI (1 : Int32) :: st, h) := by
  intro pc L st h
  have e : (Int32.ofInt 1) = (1 : Int32) := by decide
  show some (pc + 1, L, zI ((Int32.ofInt 1)) :: st, h) = _
  rw [e]
theorem zkk6 : ∀ (pc : Nat) (L : zLs) (st : List zV) (h : zH), zsLoc (.iconst (-1)) [] pc L st h = some (pc + 1, L, zI (-1 : Int32) :: st, h) := by
  intro pc L st h
  have e : (Int32.ofInt (-1)) = (-1 : Int32) := by decide
  show some (pc + 1, L, zI ((Int32.ofInt (-1))) :: st, h) = _
  rw [e]
theorem zkk7 : ∀ (pc : Nat) (L : zLs) (st : List zV) (h : zH), zsLoc (.iconst 0) [] pc L st h = some (pc + 1, L, zI (0 : Int32) :: st, h) := by
  intro pc L st h
  have e : (Int32.ofInt 0) = (0 : Int32) := by decide
  show some (pc + 1, L, zI ((Int32.ofInt 0)) :: st, h) = _
  rw [e]
theorem zkk8 : Int32.ofInt 1 = (1 : Int32) := by decide
theorem zkk9 : ∀ (pc : Nat) (L : zLs) (st : List zV) (h : zH), zsLoc (.iconst 4) [] pc L st h = some (pc + 1, L, zI (4 : Int32) :: st, h) := by
  intro pc L st h
  have e : (Int32.ofInt 4) = (4 : Int32) := by decide
  show some (pc + 1, L, zI ((Int32.ofInt 4)) :: st, h) = _
  rw [e]
theorem zkk10 : ∀ (pc : Nat) (L : zLs) (st : List zV) (h : zH), zsLoc (.bipush 30) [] pc L st h = some (pc + 1, L, zI (30 : Int32) :: st, h) := by
  intro pc L st h
  have e : (Int8.ofInt 30).toInt32 = (30 : Int32) := by decide
  show some (pc + 1, L, zI ((Int8.ofInt 30).toInt32) :: st, h) = _
  rw [e]
theorem zkk11 : ∀ (pc : Nat) (L : zLs) (st : List zV) (h : zH), zsLoc (.bipush 12) [] pc L st h = some (pc + 1, L, zI (12 : Int32) :: st, h) := by
  intro pc L st h
  have e : (Int8.ofInt 12).toInt32 = (12 : Int32) := by decide
  show some (pc + 1, L, zI ((Int8.ofInt 12).toInt32) :: st, h) = _
  rw [e]
theorem zkk12 : ∀ (pc : Nat) (L : zLs) (st : List zV) (h : zH), zsLoc (.sipush 800) [] pc L st h = some (pc + 1, L, zI (800 : Int32) :: st, h) := by
  intro pc L st h
  have e : (Int16.ofInt 800).toInt32 = (800 : Int32) := by decide
  show some (pc + 1, L, zI ((Int16.ofInt 800).toInt32) :: st, h) = _
  rw [e]
theorem zkk13 : ∀ (pc : Nat) (L : zLs) (st : List zV) (h : zH), zsLoc (.bipush 32) [] pc L st h = some (pc + 1, L, zI (32 : Int32) :: st, h) := by
  intro pc L st h
  have e : (Int8.ofInt 32).toInt32 = (32 : Int32) := by decide
  show some (pc + 1, L, zI ((Int8.ofInt 32).toInt32) :: st, h) = _
  rw [e]
theorem zkk14 : ∀ (pc : Nat) (L : zLs) (st : List zV) (h : zH), zsLoc (.bipush 6) [] pc L st h = some (pc + 1, L, zI (6 : Int32) :: st, h) := by
  intro pc L st h
  have e : (Int8.ofInt 6).toInt32 = (6 : Int32) := by decide
  show some (pc + 1, L, zI ((Int8.ofInt 6).toInt32) :: st, h) = _
  rw [e]
theorem zkk15 : ∀ (pc : Nat) (L : zLs) (st : List zV) (h : zH), zsLoc (.bipush 60) [] pc L st h = some (pc + 1, L, zI (60 : Int32) :: st, h) := by
  intro pc L st h
  have e : (Int8.ofInt 60).toInt32 = (60 : Int32) := by decide
  show some (pc + 1, L, zI ((Int8.ofInt 60).toInt32) :: st, h) = _
  rw [e]
theorem zkk16 : ∀ (pc : Nat) (L : zLs) (st : List zV) (h : zH), zsLoc (.bipush 20) [] pc L st h = some (pc + 1, L, zI (20 : Int32) :: st, h) := by
  intro pc L st h
  have e : (Int8.ofInt 20).toInt32 = (20 : Int32) := by decide
  show some (pc + 1, L, zI ((Int8.ofInt 20).toInt32) :: st, h) = _
  rw [e]
theorem zkk17 : ∀ (pc : Nat) (L : zLs) (st : List zV) (h : zH), zsLoc (.bipush 24) [] pc L st h = some (pc + 1, L, zI (24 : Int32) :: st, h) := by
  intro pc L st h
  have e : (Int8.ofInt 24).toInt32 = (24 : Int32) := by decide
  show some (pc + 1, L, zI ((Int8.ofInt 24).toInt32) :: st, h) = _
  rw [e]
theorem zkk18 : ∀ (pc : Nat) (L : zLs) (st : List zV) (h : zH), zsLoc (.sipush 14400) [] pc L st h = some (pc + 1, L, zI (14400 : Int32) :: st, h) := by
  intro pc L st h
  have e : (Int16.ofInt 14400).toInt32 = (14400 : Int32) := by decide
  show some (pc + 1, L, zI ((Int16.ofInt 14400).toInt32) :: st, h) = _
  rw [e]
theorem zkk19 : ∀ (pc : Nat) (L : zLs) (st : List zV) (h : zH), zsLoc (.bipush 9) [] pc L st h = some (pc + 1, L, zI (9 : Int32) :: st, h) := by
  intro pc L st h
  have e : (Int8.ofInt 9).toInt32 = (9 : Int32) := by decide
  show some (pc + 1, L, zI ((Int8.ofInt 9).toInt32) :: st, h) = _
  rw [e]
theorem zkk20 : ∀ (pc : Nat) (L : zLs) (st : List zV) (h : zH), zsLoc (.iconst 5) [] pc L st h = some (pc + 1, L, zI (5 : Int32) :: st, h) := by
  intro pc L st h
  have e : (Int32.ofInt 5) = (5 : Int32) := by decide
  show some (pc + 1, L, zI ((Int32.ofInt 5)) :: st, h) = _
  rw [e]
theorem zkk21 : ∀ (pc : Nat) (L : zLs) (st : List zV) (h : zH), zsLoc (.sipush 255) [] pc L st h = some (pc + 1, L, zI (255 : Int32) :: st, h) := by
  intro pc L st h
  have e : (Int16.ofInt 255).toInt32 = (255 : Int32) := by decide
  show some (pc + 1, L, zI ((Int16.ofInt 255).toInt32) :: st, h) = _
  rw [e]
theorem zkk22 : ∀ (pc : Nat) (L : zLs) (st : List zV) (h : zH), zsLoc (.bipush 7) [] pc L st h = some (pc + 1, L, zI (7 : Int32) :: st, h) := by
  intro pc L st h
  have e : (Int8.ofInt 7).toInt32 = (7 : Int32) := by decide
  show some (pc + 1, L, zI ((Int8.ofInt 7).toInt32) :: st, h) = _
  rw [e]
theorem zkk23 : ∀ (pc : Nat) (L : zLs) (st : List zV) (h : zH), zsLoc (.iconst 2) [] pc L st h = some (pc + 1, L, zI (2 : Int32) :: st, h) := by
  intro pc L st h
  have e : (Int32.ofInt 2) = (2 : Int32) := by decide
  show some (pc + 1, L, zI ((Int32.ofInt 2)) :: st, h) = _
  rw [e]
theorem zkk24 : ∀ (pc : Nat) (L : zLs) (st : List zV) (h : zH), zsLoc (.lconst 0) [] pc L st h = some (pc + 1, L, zJ (0 : Int64) :: st, h) := by
  intro pc L st h
  rfl
theorem zkk25 : ∀ (pc : Nat) (L : zLs) (st : List zV) (h : zH), zsLoc (.lconst 1) [] pc L st h = some (pc + 1, L, zJ (1 : Int64) :: st, h) := by
  intro pc L st h
  rfl
theorem zkk26 : ∀ (pc : Nat) (L : zLs) (st : List zV) (h : zH), zsLoc (.aconst_null) [] pc L st h = some (pc + 1, L, zrv (none : zq) :: st, h) := by
  intro pc L st h
  rfl
theorem zkk27 : ∀ (pc : Nat) (L : zLs) (st : List zV) (h : zH), zsLoc (.bipush 10) [] pc L st h = some (pc + 1, L, zI (10 : Int32) :: st, h) := by
  intro pc L st h
  have e : (Int8.ofInt 10).toInt32 = (10 : Int32) := by decide
  show some (pc + 1, L, zI ((Int8.ofInt 10).toInt32) :: st, h) = _
  rw [e]
theorem zkk28 : ∀ (pc : Nat) (L : zLs) (st : List zV) (h : zH), zsLoc (.sipush 1000) [] pc L st h = some (pc + 1, L, zI (1000 : Int32) :: st, h) := by
  intro pc L st h
  have e : (Int16.ofInt 1000).toInt32 = (1000 : Int32) := by decide
  show some (pc + 1, L, zI ((Int16.ofInt 1000).toInt32) :: st, h) = _
  rw [e]
theorem zkk29 : ∀ (pc : Nat) (L : zLs) (st : List zV) (h : zH), zsLoc (.bipush 100) [] pc L st h = some (pc + 1, L, zI (100 : Int32) :: st, h) := by
  intro pc L st h
  have e : (Int8.ofInt 100).toInt32 = (100 : Int32) := by decide
  show some (pc + 1, L, zI ((Int8.ofInt 100).toInt32) :: st, h) = _
  rw [e]
theorem zkk30 : ∀ (pc : Nat) (L : zLs) (st : List zV) (h : zH), zsLoc (.ldc_w 265) [1431655765] pc L st h = some (pc + 1, L, zI (1431655765 : Int32) :: st, h) := by
  intro pc L st h
  have e : nI 1431655765 = (1431655765 : Int32) := by decide
  show some (pc + 1, L, zI (nI 1431655765) :: st, h) = _
  rw [e]
theorem zkk31 : ∀ (pc : Nat) (L : zLs) (st : List zV) (h : zH), zsLoc (.ldc_w 266) [858993459] pc L st h = some (pc + 1, L, zI (858993459 : Int32) :: st, h) := by
  intro pc L st h
  have e : nI 858993459 = (858993459 : Int32) := by decide
  show some (pc + 1, L, zI (nI 858993459) :: st, h) = _
  rw [e]
theorem zkk32 : ∀ (pc : Nat) (L : zLs) (st : List zV) (h : zH), zsLoc (.ldc_w 267) [252645135] pc L st h = some (pc + 1, L, zI (252645135 : Int32) :: st, h) := by
  intro pc L st h
  have e : nI 252645135 = (252645135 : Int32) := by decide
  show some (pc + 1, L, zI (nI 252645135) :: st, h) = _
  rw [e]
theorem zkk33 : ∀ (pc : Nat) (L : zLs) (st : List zV) (h : zH), zsLoc (.bipush 16) [] pc L st h = some (pc + 1, L, zI (16 : Int32) :: st, h) := by
  intro pc L st h
  have e : (Int8.ofInt 16).toInt32 = (16 : Int32) := by decide
  show some (pc + 1, L, zI ((Int8.ofInt 16).toInt32) :: st, h) = _
  rw [e]
theorem zkk34 : ∀ (pc : Nat) (L : zLs) (st : List zV) (h : zH), zsLoc (.bipush 63) [] pc L st h = some (pc + 1, L, zI (63 : Int32) :: st, h) := by
  intro pc L st h
  have e : (Int8.ofInt 63).toInt32 = (63 : Int32) := by decide
  show some (pc + 1, L, zI ((Int8.ofInt 63).toInt32) :: st, h) = _
  rw [e]
theorem zkk35 : ∀ (pc : Nat) (L : zLs) (st : List zV) (h : zH), zsLoc (.bipush 50) [] pc L st h = some (pc + 1, L, zI (50 : Int32) :: st, h) := by
  intro pc L st h
  have e : (Int8.ofInt 50).toInt32 = (50 : Int32) := by decide
  show some (pc + 1, L, zI ((Int8.ofInt 50).toInt32) :: st, h) = _
  rw [e]
theorem zkk36 : Int32.ofInt 2 = (2 : Int32) := by decide
theorem zkk37 : ∀ (pc : Nat) (L : zLs) (st : List zV) (h : zH), zsLoc (.ldc2_w 74) [4626322717216342016] pc L st h = some (pc + 1, L, zD (4626322717216342016 : UInt64) :: st, h) := by
  intro pc L st h
  rfl
theorem zkk38 : ∀ (pc : Nat) (L : zLs) (st : List zV) (h : zH), zsLoc (.bipush 11) [] pc L st h = some (pc + 1, L, zI (11 : Int32) :: st, h) := by
  intro pc L st h
  have e : (Int8.ofInt 11).toInt32 = (11 : Int32) := by decide
  show some (pc + 1, L, zI ((Int8.ofInt 11).toInt32) :: st, h) = _
  rw [e]
theorem zkk39 : ∀ (pc : Nat) (L : zLs) (st : List zV) (h : zH), zsLoc (.bipush 13) [] pc L st h = some (pc + 1, L, zI (13 : Int32) :: st, h) := by
  intro pc L st h
  have e : (Int8.ofInt 13).toInt32 = (13 : Int32) := by decide
  show some (pc + 1, L, zI ((Int8.ofInt 13).toInt32) :: st, h) = _
  rw [e]
theorem zkk40 : ∀ (pc : Nat) (L : zLs) (st : List zV) (h : zH), zsLoc (.bipush 14) [] pc L st h = some (pc + 1, L, zI (14 : Int32) :: st, h) := by
  intro pc L st h
  have e : (Int8.ofInt 14).toInt32 = (14 : Int32) := by decide
  show some (pc + 1, L, zI ((Int8.ofInt 14).toInt32) :: st, h) = _
  rw [e]
theorem zkk41 : ∀ (pc : Nat) (L : zLs) (st : List zV) (h : zH), zsLoc (.sipush 600) [] pc L st h = some (pc + 1, L, zI (600 : Int32) :: st, h) := by
  intro pc L st h
  have e : (Int16.ofInt 600).toInt32 = (600 : Int32) := by decide
  show some (pc + 1, L, zI ((Int16.ofInt 600).toInt32) :: st, h) = _
  rw [e]
theorem zkk42 : ∀ (pc : Nat) (L : zLs) (st : List zV) (h : zH), zsLoc (.ldc2_w 378) [4626322717216342016] pc L st h = some (pc + 1, L, zD (4626322717216342016 : UInt64) :: st, h) := by
  intro pc L st h
  rfl
theorem zkk43 : ∀ (pc : Nat) (L : zLs) (st : List zV) (h : zH), zsLoc (.sipush 1200) [] pc L st h = some (pc + 1, L, zI (1200 : Int32) :: st, h) := by
  intro pc L st h
  have e : (Int16.ofInt 1200).toInt32 = (1200 : Int32) := by decide
  show some (pc + 1, L, zI ((Int16.ofInt 1200).toInt32) :: st, h) = _
  rw [e]
theorem zkk44 : ∀ (pc : Nat) (L : zLs) (st : List zV) (h : zH), zsLoc (.ldc2_w 382) [4602678819172646912] pc L st h = some (pc + 1, L, zD (4602678819172646912 : UInt64) :: st, h) := by
  intro pc L st h
  rfl
theorem zkk45 : ∀ (pc : Nat) (L : zLs) (st : List zV) (h : zH), zsLoc (.ldc2_w 380) [4609434218613702656] pc L st h = some (pc + 1, L, zD (4609434218613702656 : UInt64) :: st, h) := by
  intro pc L st h
  rfl
theorem zkk46 : ∀ (pc : Nat) (L : zLs) (st : List zV) (h : zH), zsLoc (.sipush 20000) [] pc L st h = some (pc + 1, L, zI (20000 : Int32) :: st, h) := by
  intro pc L st h
  have e : (Int16.ofInt 20000).toInt32 = (20000 : Int32) := by decide
  show some (pc + 1, L, zI ((Int16.ofInt 20000).toInt32) :: st, h) = _
  rw [e]
theorem zkk47 : ∀ (pc : Nat) (L : zLs) (st : List zV) (h : zH), zsLoc (.bipush 37) [] pc L st h = some (pc + 1, L, zI (37 : Int32) :: st, h) := by
  intro pc L st h
  have e : (Int8.ofInt 37).toInt32 = (37 : Int32) := by decide
  show some (pc + 1, L, zI ((Int8.ofInt 37).toInt32) :: st, h) = _
  rw [e]
theorem zkk48 : ∀ (pc : Nat) (L : zLs) (st : List zV) (h : zH), zsLoc (.sipush 199) [] pc L st h = some (pc + 1, L, zI (199 : Int32) :: st, h) := by
  intro pc L st h
  have e : (Int16.ofInt 199).toInt32 = (199 : Int32) := by decide
  show some (pc + 1, L, zI ((Int16.ofInt 199).toInt32) :: st, h) = _
  rw [e]
theorem zkk49 : ∀ (pc : Nat) (L : zLs) (st : List zV) (h : zH), zsLoc (.bipush 40) [] pc L st h = some (pc + 1, L, zI (40 : Int32) :: st, h) := by
  intro pc L st h
  have e : (Int8.ofInt 40).toInt32 = (40 : Int32) := by decide
  show some (pc + 1, L, zI ((Int8.ofInt 40).toInt32) :: st, h) = _
  rw [e]
theorem zkk50 : Int32.ofInt (-1) = (-1 : Int32) := by decide
theorem zkk51 : ∀ (pc : Nat) (L : zLs) (st : List zV) (h : zH), zsLoc (.ldc2_w 78) [4602678819172646912] pc L st h = some (pc + 1, L, zD (4602678819172646912 : UInt64) :: st, h) := by
  intro pc L st h
  rfl
theorem zkk52 : ∀ (pc : Nat) (L : zLs) (st : List zV) (h : zH), zsLoc (.ldc2_w 76) [4609434218613702656] pc L st h = some (pc + 1, L, zD (4609434218613702656 : UInt64) :: st, h) := by
  intro pc L st h
  rfl
theorem zkk53 : ∀ (pc : Nat) (L : zLs) (st : List zV) (h : zH), zsLoc (.ldc_w 456) [60000] pc L st h = some (pc + 1, L, zI (60000 : Int32) :: st, h) := by
  intro pc L st h
  have e : nI 60000 = (60000 : Int32) := by decide
  show some (pc + 1, L, zI (nI 60000) :: st, h) = _
  rw [e]
theorem zkk54 : ∀ (pc : Nat) (L : zLs) (st : List zV) (h : zH), zsLoc (.ldc_w 371) [60000] pc L st h = some (pc + 1, L, zI (60000 : Int32) :: st, h) := by
  intro pc L st h
  have e : nI 60000 = (60000 : Int32) := by decide
  show some (pc + 1, L, zI (nI 60000) :: st, h) = _
  rw [e]
theorem zkk55 : ∀ (pc : Nat) (L : zLs) (st : List zV) (h : zH), zsLoc (.dconst 0) [] pc L st h = some (pc + 1, L, zD (0 : UInt64) :: st, h) := by
  intro pc L st h
  rfl
theorem zkk56 : ∀ (pc : Nat) (L : zLs) (st : List zV) (h : zH), zsLoc (.fconst 0) [] pc L st h = some (pc + 1, L, zF (0 : UInt32) :: st, h) := by
  intro pc L st h
  rfl
theorem zkk57 : ∀ (pc : Nat) (L : zLs) (st : List zV) (h : zH), zsLoc (.bipush 53) [] pc L st h = some (pc + 1, L, zI (53 : Int32) :: st, h) := by
  intro pc L st h
  have e : (Int8.ofInt 53).toInt32 = (53 : Int32) := by decide
  show some (pc + 1, L, zI ((Int8.ofInt 53).toInt32) :: st, h) = _
  rw [e]
theorem zkk58 : ∀ (pc : Nat) (L : zLs) (st : List zV) (h : zH), zsLoc (.bipush 29) [] pc L st h = some (pc + 1, L, zI (29 : Int32) :: st, h) := by
  intro pc L st h
  have e : (Int8.ofInt 29).toInt32 = (29 : Int32) := by decide
  show some (pc + 1, L, zI ((Int8.ofInt 29).toInt32) :: st, h) = _
  rw [e]
theorem zkk59 : ∀ (pc : Nat) (L : zLs) (st : List zV) (h : zH), zsLoc (.sipush 500) [] pc L st h = some (pc + 1, L, zI (500 : Int32) :: st, h) := by
  intro pc L st h
  have e : (Int16.ofInt 500).toInt32 = (500 : Int32) := by decide
  show some (pc + 1, L, zI ((Int16.ofInt 500).toInt32) :: st, h) = _
  rw [e]
theorem zkk60 : ∀ (pc : Nat) (L : zLs) (st : List zV) (h : zH), zsLoc (.bipush 99) [] pc L st h = some (pc + 1, L, zI (99 : Int32) :: st, h) := by
  intro pc L st h
  have e : (Int8.ofInt 99).toInt32 = (99 : Int32) := by decide
  show some (pc + 1, L, zI ((Int8.ofInt 99).toInt32) :: st, h) = _
  rw [e]
theorem zkk61 : ∀ (pc : Nat) (L : zLs) (st : List zV) (h : zH), zsLoc (.bipush 61) [] pc L st h = some (pc + 1, L, zI (61 : Int32) :: st, h) := by
  intro pc L st h
  have e : (Int8.ofInt 61).toInt32 = (61 : Int32) := by decide
  show some (pc + 1, L, zI ((Int8.ofInt 61).toInt32) :: st, h) = _
  rw [e]
theorem zkk62 : Int32.ofInt 10 = (10 : Int32) := by decide
-- 17: ReleaseHouse$Sample.<init>()V
def zm17 (x0 : zq) (h : zH) : zRs Unit :=
  znn x0 fun p21 i22 =>
  if (8 : Int32) < 0 ∨ 100000 < (8 : Int32).toNatClampNeg then none else
  zlet (znw h 30 (8 : Int32).toNatClampNeg (8 : Int32).toNatClampNeg) fun h25 =>
  zob 7 x0 fun p27 i28 =>
  zlet (zsr h25 p27 i28 0 (some (30, zct h 30))) fun h31 =>
  if (17 : Int32) < 0 ∨ 100000 < (17 : Int32).toNatClampNeg then none else
  zlet (znw h31 31 (17 : Int32).toNatClampNeg (17 : Int32).toNatClampNeg) fun h33 =>
  zlet (zsr h33 p27 i28 3 (some (31, zct h31 31))) fun h35 =>
  some (.inl (), h35)
theorem zmS17 {x0 : zq} {h : zH} {r : Unit ⊕ Nat} {h' : zH} (H : zm17 x0 h = some (r, h')) : zAt 17 0 [some (zrv x0)] [] h (zoU r) h' := by
  unfold zm17 at H
  refine zA_aldn rfl rfl rfl ?_
  obtain ⟨p21, i22, e23, H⟩ := znn_e H
  refine zA_l0 rfl rfl rfl e23 ?_
  refine zA_aldn rfl rfl rfl ?_
  refine zA_push rfl rfl zkk0 ?_
  rcases zite_e H with ⟨_, H⟩ | ⟨ch25, H⟩
  · cases H
  obtain ⟨h25, e26, H⟩ := zlet_e H
  refine zA_newA rfl rfl (fun _ _ _ _ _ => rfl) ch25 e26 ?_
  obtain ⟨p27, i28, e29, c30, H⟩ := zob_e H
  obtain ⟨h31, e32, H⟩ := zlet_e H
  refine zA_pf3 rfl rfl e29 c30 e32 ?_
  refine zA_aldn rfl rfl rfl ?_
  refine zA_push rfl rfl zkk1 ?_
  rcases zite_e H with ⟨_, H⟩ | ⟨ch33, H⟩
  · cases H
  obtain ⟨h33, e34, H⟩ := zlet_e H
  refine zA_newA rfl rfl (fun _ _ _ _ _ => rfl) ch33 e34 ?_
  obtain ⟨h35, e36, H⟩ := zlet_e H
  refine zA_pf3 rfl rfl e29 c30 e36 ?_
  cases H
  exact zA_ret rfl rfl
theorem zmE17 (x0 : zq) : zpad (zPr.2.1 17).1 (zil [zrv x0]) = [some (zrv x0)] := by
  simp only [zil_A, zil_I, zil_F, zil_D, zil_N]
  rfl
-- 27: ReleaseHouse$Spot.<init>()V
def zm27 (x0 : zq) (h : zH) : zRs Unit :=
  znn x0 fun p21 i22 =>
  zob 9 x0 fun p25 i26 =>
  zlet (zsd h p25 i26 4 (4607182418800017408 : UInt64)) fun h29 =>
  zlet (znw h29 7 0 4) fun h31 =>
  zob 7 (some (7, zct h29 7)) fun p33 i34 =>
  zb2 (zm17 (some (7, zct h29 7)) h31) fun _ h37 =>
  zlet (zsr h37 p25 i26 5 (some (7, zct h29 7))) fun h38 =>
  zlet (znw h38 8 0 4) fun h40 =>
  zob 7 (some (8, zct h38 8)) fun p42 i43 =>
  zb2 (zm17 (some (8, zct h38 8)) h40) fun _ h46 =>
  zlet (zsr h46 p25 i26 6 (some (8, zct h38 8))) fun h47 =>
  some (.inl (), h47)
theorem zmS27 {x0 : zq} {h : zH} {r : Unit ⊕ Nat} {h' : zH} (H : zm27 x0 h = some (r, h')) : zAt 27 0 [some (zrv x0)] [] h (zoU r) h' := by
  unfold zm27 at H
  refine zA_aldn rfl rfl rfl ?_
  obtain ⟨p21, i22, e23, H⟩ := znn_e H
  refine zA_l0 rfl rfl rfl e23 ?_
  refine zA_aldn rfl rfl rfl ?_
  refine zA_push rfl rfl zkk2 ?_
  obtain ⟨p25, i26, e27, c28, H⟩ := zob_e H
  obtain ⟨h29, e30, H⟩ := zlet_e H
  refine zA_pf2 rfl rfl e27 c28 e30 ?_
  refine zA_aldn rfl rfl rfl ?_
  obtain ⟨h31, e32, H⟩ := zlet_e H
  refine zA_new (n := 4) rfl rfl (fun _ _ _ _ => rfl) e32 ?_
  refine zA_dup rfl rfl (zcat_rv _) ?_
  obtain ⟨p33, i34, e35, c36, H⟩ := zob_e H
  obtain ⟨u50, h37, C, H⟩ := zb2_e H
  refine zA_callU (as := [zrv (some (7, zct h29 7))]) (st' := [zrv (some (7, zct h29 7)), zrv x0]) rfl rfl rfl (zrcv_Q e35 c36) rfl (zmE17 _) rfl (zmS17 C) ?_
  obtain ⟨h38, e39, H⟩ := zlet_e H
  refine zA_pf3 rfl rfl e27 c28 e39 ?_
  refine zA_aldn rfl rfl rfl ?_
  obtain ⟨h40, e41, H⟩ := zlet_e H
  refine zA_new (n := 4) rfl rfl (fun _ _ _ _ => rfl) e41 ?_
  refine zA_dup rfl rfl (zcat_rv _) ?_
  obtain ⟨p42, i43, e44, c45, H⟩ := zob_e H
  obtain ⟨u49, h46, C, H⟩ := zb2_e H
  refine zA_callU (as := [zrv (some (8, zct h38 8))]) (st' := [zrv (some (8, zct h38 8)), zrv x0]) rfl rfl rfl (zrcv_Q e44 c45) rfl (zmE17 _) rfl (zmS17 C) ?_
  obtain ⟨h47, e48, H⟩ := zlet_e H
  refine zA_pf3 rfl rfl e27 c28 e48 ?_
  cases H
  exact zA_ret rfl rfl
theorem zmE27 (x0 : zq) : zpad (zPr.2.1 27).1 (zil [zrv x0]) = [some (zrv x0)] := by
  simp only [zil_A, zil_I, zil_F, zil_D, zil_N]
  rfl
def zm24_25 : Nat → zq → Int32 → zH → zRs Unit
  | 0, _, _, _ => none
  | n + 1, x0, x1, h =>
    if (3 : Int32) ≤ x1 then
      some (.inl (), h)
    else
      zob 8 x0 fun p22 i23 =>
      zlet (znw h 10 0 7) fun h26 =>
      zob 9 (some (10, zct h 10)) fun p28 i29 =>
      zb2 (zm27 (some (10, zct h 10)) h26) fun _ h32 =>
      zas (zr h p22 i23 0) (some (10, zct h 10)) x1 h32 fun p33 i34 p42 i43 j35 =>
      zlet (zsr h32 p33 i34 j35 (some (p42, i43))) fun h40 =>
      zlet (x1 + (1 : Int32)) fun x45 =>
      zm24_25 n x0 x45 h40
theorem zmS24_25 : ∀ (n : Nat) (x0 : zq) (x1 : Int32) (h : zH) (r : Unit ⊕ Nat) (h' : zH), zm24_25 n x0 x1 h = some (r, h') → zAt 24 25 [some (zrv x0), some (zI x1)] [] h (zoU r) h' := by
  intro n
  induction n with
  | zero => intro x0 x1 h r h' H; cases H
  | succ n ih =>
    intro x0 x1 h r h' H
    unfold zm24_25 at H
    refine zA_ldn rfl rfl rfl ?_
    refine zA_push rfl rfl zkk3 ?_
    rcases zite_e H with ⟨c21, H⟩ | ⟨c21, H⟩
    · refine zA_brT (c := (3 : Int32) ≤ x1) rfl rfl rfl c21 ?_
      refine zA_tr (L := [none, none]) rfl rfl ?_
      cases H
      exact zA_ret rfl rfl
    · refine zA_brF (c := (3 : Int32) ≤ x1) rfl rfl rfl c21 ?_
      refine zA_aldn rfl rfl rfl ?_
      obtain ⟨p22, i23, e24, c25, H⟩ := zob_e H
      refine zA_gf3 rfl rfl e24 c25 ?_
      refine zA_ldn rfl rfl rfl ?_
      obtain ⟨h26, e27, H⟩ := zlet_e H
      refine zA_new (n := 7) rfl rfl (fun _ _ _ _ => rfl) e27 ?_
      refine zA_dup rfl rfl (zcat_rv _) ?_
      obtain ⟨p28, i29, e30, c31, H⟩ := zob_e H
      obtain ⟨u47, h32, C, H⟩ := zb2_e H
      refine zA_callU (as := [zrv (some (10, zct h 10))]) (st' := [zrv (some (10, zct h 10)), zI x1, zrv (zr h p22 i23 0)]) rfl rfl rfl (zrcv_Q e30 c31) rfl (zmE27 _) rfl (zmS27 C) ?_
      obtain ⟨p33, i34, p42, i43, j35, e36, e44, c37, c38, e39, H⟩ := zas_e H
      obtain ⟨h40, e41, H⟩ := zlet_e H
      refine zA_aas rfl rfl e36 e44 c37 c38 e39 e41 ?_
      obtain ⟨x45, e46, H⟩ := zlet_e H
      refine zA_inc rfl rfl rfl (e46.trans (congrArg (_ + ·) zkk8)) (zset1 (L' := [some (zrv x0), some (zI x45)]) rfl rfl (zpcV rfl (zcat_rv _))) ?_
      refine zA_go rfl rfl ?_
      exact zA_tr (L := [some (zrv x0), some (zI x45)]) rfl rfl (ih _ _ _ _ _ H)
-- 24: ReleaseHouse$Service.<init>()V
def zm24 (x0 : zq) (h : zH) : zRs Unit :=
  znn x0 fun p21 i22 =>
  if (3 : Int32) < 0 ∨ 100000 < (3 : Int32).toNatClampNeg then none else
  zlet (znw h 27 (3 : Int32).toNatClampNeg (3 : Int32).toNatClampNeg) fun h25 =>
  zob 8 x0 fun p27 i28 =>
  zlet (zsr h25 p27 i28 0 (some (27, zct h 27))) fun h31 =>
  if (8 : Int32) < 0 ∨ 100000 < (8 : Int32).toNatClampNeg then none else
  zlet (znw h31 28 (8 : Int32).toNatClampNeg (8 : Int32).toNatClampNeg) fun h33 =>
  zlet (zsr h33 p27 i28 1 (some (28, zct h31 28))) fun h35 =>
  if (200 : Int32) < 0 ∨ 100000 < (200 : Int32).toNatClampNeg then none else
  zlet (znw h35 29 (200 : Int32).toNatClampNeg (200 : Int32).toNatClampNeg) fun h37 =>
  zlet (zsr h37 p27 i28 2 (some (29, zct h35 29))) fun h39 =>
  zlet (zsi h39 p27 i28 3 (1 : Int32)) fun h41 =>
  zlet (zsi h41 p27 i28 4 (-1 : Int32)) fun h43 =>
  zlet (zsi h43 p27 i28 5 (-1 : Int32)) fun h45 =>
  zm24_25 zN0 x0 (0 : Int32) h45
theorem zmS24 {x0 : zq} {h : zH} {r : Unit ⊕ Nat} {h' : zH} (H : zm24 x0 h = some (r, h')) : zAt 24 0 [some (zrv x0), none] [] h (zoU r) h' := by
  unfold zm24 at H
  refine zA_aldn rfl rfl rfl ?_
  obtain ⟨p21, i22, e23, H⟩ := znn_e H
  refine zA_l0 rfl rfl rfl e23 ?_
  refine zA_aldn rfl rfl rfl ?_
  refine zA_push rfl rfl zkk3 ?_
  rcases zite_e H with ⟨_, H⟩ | ⟨ch25, H⟩
  · cases H
  obtain ⟨h25, e26, H⟩ := zlet_e H
  refine zA_newA rfl rfl (fun _ _ _ _ _ => rfl) ch25 e26 ?_
  obtain ⟨p27, i28, e29, c30, H⟩ := zob_e H
  obtain ⟨h31, e32, H⟩ := zlet_e H
  refine zA_pf3 rfl rfl e29 c30 e32 ?_
  refine zA_aldn rfl rfl rfl ?_
  refine zA_push rfl rfl zkk0 ?_
  rcases zite_e H with ⟨_, H⟩ | ⟨ch33, H⟩
  · cases H
  obtain ⟨h33, e34, H⟩ := zlet_e H
  refine zA_newA rfl rfl (fun _ _ _ _ _ => rfl) ch33 e34 ?_
  obtain ⟨h35, e36, H⟩ := zlet_e H
  refine zA_pf3 rfl rfl e29 c30 e36 ?_
  refine zA_aldn rfl rfl rfl ?_
  refine zA_push rfl rfl zkk4 ?_
  rcases zite_e H with ⟨_, H⟩ | ⟨ch37, H⟩
  · cases H
  obtain ⟨h37, e38, H⟩ := zlet_e H
  refine zA_newA rfl rfl (fun _ _ _ _ _ => rfl) ch37 e38 ?_
  obtain ⟨h39, e40, H⟩ := zlet_e H
  refine zA_pf3 rfl rfl e29 c30 e40 ?_
  refine zA_aldn rfl rfl rfl ?_
  refine zA_push rfl rfl zkk5 ?_
  obtain ⟨h41, e42, H⟩ := zlet_e H
  refine zA_pf0 rfl rfl e29 c30 e42 ?_
  refine zA_aldn rfl rfl rfl ?_
  refine zA_push rfl rfl zkk6 ?_
  obtain ⟨h43, e44, H⟩ := zlet_e H
  refine zA_pf0 rfl rfl e29 c30 e44 ?_
  refine zA_aldn rfl rfl rfl ?_
  refine zA_push rfl rfl zkk6 ?_
  obtain ⟨h45, e46, H⟩ := zlet_e H
  refine zA_pf0 rfl rfl e29 c30 e46 ?_
  refine zA_push rfl rfl zkk7 ?_
  refine zA_istn2 rfl rfl rfl (zset1 (L' := [some (zrv x0), some (zI (0 : Int32))]) rfl rfl (zpcV rfl (zcat_rv _))) ?_
  exact zA_tr (L := [some (zrv x0), some (zI (0 : Int32))]) rfl rfl (zmS24_25 zN0 _ _ _ _ _ H)
theorem zmE24 (x0 : zq) : zpad (zPr.2.1 24).1 (zil [zrv x0]) = [some (zrv x0), none] := by
  simp only [zil_A, zil_I, zil_F, zil_D, zil_N]
  rfl
-- 4: ReleaseHouse$Flag.<init>()V
def zm4 (x0 : zq) (h : zH) : zRs Unit :=
  znn x0 fun p21 i22 =>
  zlet (znw h 20 0 3) fun h25 =>
  znn (some (20, zct h 20)) fun p27 i28 =>
  zif ((ztg p27 == 9) = true) <|
  zif (zi h25 p27 i28 1 = 0 ∧ zln h25 p27 i28 = 0) <|
  zlet (zsi h25 p27 i28 1 1) fun h32 =>
  zob 2 x0 fun p34 i35 =>
  zlet (zsr h32 p34 i35 0 (some (20, zct h 20))) fun h38 =>
  zlet (zsi h38 p34 i35 2 (-1 : Int32)) fun h40 =>
  some (.inl (), h40)
theorem zmS4 {x0 : zq} {h : zH} {r : Unit ⊕ Nat} {h' : zH} (H : zm4 x0 h = some (r, h')) : zAt 4 0 [some (zrv x0)] [] h (zoU r) h' := by
  unfold zm4 at H
  refine zA_aldn rfl rfl rfl ?_
  obtain ⟨p21, i22, e23, H⟩ := znn_e H
  refine zA_l0 rfl rfl rfl e23 ?_
  refine zA_aldn rfl rfl rfl ?_
  obtain ⟨h25, e26, H⟩ := zlet_e H
  refine zA_new (n := 3) rfl rfl (fun _ _ _ _ => rfl) e26 ?_
  refine zA_dup rfl rfl (zcat_rv _) ?_
  obtain ⟨p27, i28, e29, H⟩ := znn_e H
  obtain ⟨c30, H⟩ := zif_e H
  obtain ⟨c31, H⟩ := zif_e H
  obtain ⟨h32, e33, H⟩ := zlet_e H
  refine zA_l1 rfl rfl rfl e29 c30 c31 e33 ?_
  obtain ⟨p34, i35, e36, c37, H⟩ := zob_e H
  obtain ⟨h38, e39, H⟩ := zlet_e H
  refine zA_pf3 rfl rfl e36 c37 e39 ?_
  refine zA_aldn rfl rfl rfl ?_
  refine zA_push rfl rfl zkk6 ?_
  obtain ⟨h40, e41, H⟩ := zlet_e H
  refine zA_pf0 rfl rfl e36 c37 e41 ?_
  cases H
  exact zA_ret rfl rfl
theorem zmE4 (x0 : zq) : zpad (zPr.2.1 4).1 (zil [zrv x0]) = [some (zrv x0)] := by
  simp only [zil_A, zil_I, zil_F, zil_D, zil_N]
  rfl
def zm39_57 (k69 : zq → zH → zRs Unit) : Nat → zq → Int32 → zH → zRs Unit
  | 0, _, _, _ => none
  | n + 1, x0, x1, h =>
    if (4 : Int32) ≤ x1 then
      k69 x0 h
    else
      zob 11 x0 fun p22 i23 =>
      zlet (znw h 9 0 8) fun h26 =>
      zob 8 (some (9, zct h 9)) fun p28 i29 =>
      zb2 (zm24 (some (9, zct h 9)) h26) fun _ h32 =>
      zas (zr h p22 i23 6) (some (9, zct h 9)) x1 h32 fun p33 i34 p42 i43 j35 =>
      zlet (zsr h32 p33 i34 j35 (some (p42, i43))) fun h40 =>
      zlet (x1 + (1 : Int32)) fun x45 =>
      zm39_57 k69 n x0 x45 h40
theorem zmS39_57 {k69 : zq → zH → zRs Unit} (hk69 : ∀ (x0 : zq) (h : zH) (r : Unit ⊕ Nat) (h' : zH), k69 x0 h = some (r, h') → zAt 39 69 [some (zrv x0), none] [] h (zoU r) h') : ∀ (n : Nat) (x0 : zq) (x1 : Int32) (h : zH) (r : Unit ⊕ Nat) (h' : zH), zm39_57 k69 n x0 x1 h = some (r, h') → zAt 39 57 [some (zrv x0), some (zI x1)] [] h (zoU r) h' := by
  intro n
  induction n with
  | zero => intro x0 x1 h r h' H; cases H
  | succ n ih =>
    intro x0 x1 h r h' H
    unfold zm39_57 at H
    refine zA_ldn rfl rfl rfl ?_
    refine zA_push rfl rfl zkk9 ?_
    rcases zite_e H with ⟨c21, H⟩ | ⟨c21, H⟩
    · refine zA_brT (c := (4 : Int32) ≤ x1) rfl rfl rfl c21 ?_
      exact zA_tr (L := [some (zrv x0), none]) rfl rfl (hk69 _ _ _ _ H)
    · refine zA_brF (c := (4 : Int32) ≤ x1) rfl rfl rfl c21 ?_
      refine zA_aldn rfl rfl rfl ?_
      obtain ⟨p22, i23, e24, c25, H⟩ := zob_e H
      refine zA_gf3 rfl rfl e24 c25 ?_
      refine zA_ldn rfl rfl rfl ?_
      obtain ⟨h26, e27, H⟩ := zlet_e H
      refine zA_new (n := 8) rfl rfl (fun _ _ _ _ => rfl) e27 ?_
      refine zA_dup rfl rfl (zcat_rv _) ?_
      obtain ⟨p28, i29, e30, c31, H⟩ := zob_e H
      obtain ⟨u47, h32, C, H⟩ := zb2_e H
      refine zA_callU (as := [zrv (some (9, zct h 9))]) (st' := [zrv (some (9, zct h 9)), zI x1, zrv (zr h p22 i23 6)]) rfl rfl rfl (zrcv_Q e30 c31) rfl (zmE24 _) rfl (zmS24 C) ?_
      obtain ⟨p33, i34, p42, i43, j35, e36, e44, c37, c38, e39, H⟩ := zas_e H
      obtain ⟨h40, e41, H⟩ := zlet_e H
      refine zA_aas rfl rfl e36 e44 c37 c38 e39 e41 ?_
      obtain ⟨x45, e46, H⟩ := zlet_e H
      refine zA_inc rfl rfl rfl (e46.trans (congrArg (_ + ·) zkk8)) (zset1 (L' := [some (zrv x0), some (zI x45)]) rfl rfl (zpcV rfl (zcat_rv _))) ?_
      refine zA_go rfl rfl ?_
      exact zA_tr (L := [some (zrv x0), some (zI x45)]) rfl rfl (ih _ _ _ _ _ H)
def zm39_71 : Nat → zq → Int32 → zH → zRs Unit
  | 0, _, _, _ => none
  | n + 1, x0, x1, h =>
    if (8 : Int32) ≤ x1 then
      some (.inl (), h)
    else
      zob 11 x0 fun p22 i23 =>
      zlet (znw h 2 0 5) fun h26 =>
      zob 2 (some (2, zct h 2)) fun p28 i29 =>
      zb2 (zm4 (some (2, zct h 2)) h26) fun _ h32 =>
      zas (zr h p22 i23 7) (some (2, zct h 2)) x1 h32 fun p33 i34 p42 i43 j35 =>
      zlet (zsr h32 p33 i34 j35 (some (p42, i43))) fun h40 =>
      zlet (x1 + (1 : Int32)) fun x45 =>
      zm39_71 n x0 x45 h40
theorem zmS39_71 : ∀ (n : Nat) (x0 : zq) (x1 : Int32) (h : zH) (r : Unit ⊕ Nat) (h' : zH), zm39_71 n x0 x1 h = some (r, h') → zAt 39 71 [some (zrv x0), some (zI x1)] [] h (zoU r) h' := by
  intro n
  induction n with
  | zero => intro x0 x1 h r h' H; cases H
  | succ n ih =>
    intro x0 x1 h r h' H
    unfold zm39_71 at H
    refine zA_ldn rfl rfl rfl ?_
    refine zA_push rfl rfl zkk0 ?_
    rcases zite_e H with ⟨c21, H⟩ | ⟨c21, H⟩
    · refine zA_brT (c := (8 : Int32) ≤ x1) rfl rfl rfl c21 ?_
      refine zA_tr (L := [none, none]) rfl rfl ?_
      cases H
      exact zA_ret rfl rfl
    · refine zA_brF (c := (8 : Int32) ≤ x1) rfl rfl rfl c21 ?_
      refine zA_aldn rfl rfl rfl ?_
      obtain ⟨p22, i23, e24, c25, H⟩ := zob_e H
      refine zA_gf3 rfl rfl e24 c25 ?_
      refine zA_ldn rfl rfl rfl ?_
      obtain ⟨h26, e27, H⟩ := zlet_e H
      refine zA_new (n := 5) rfl rfl (fun _ _ _ _ => rfl) e27 ?_
      refine zA_dup rfl rfl (zcat_rv _) ?_
      obtain ⟨p28, i29, e30, c31, H⟩ := zob_e H
      obtain ⟨u47, h32, C, H⟩ := zb2_e H
      refine zA_callU (as := [zrv (some (2, zct h 2))]) (st' := [zrv (some (2, zct h 2)), zI x1, zrv (zr h p22 i23 7)]) rfl rfl rfl (zrcv_Q e30 c31) rfl (zmE4 _) rfl (zmS4 C) ?_
      obtain ⟨p33, i34, p42, i43, j35, e36, e44, c37, c38, e39, H⟩ := zas_e H
      obtain ⟨h40, e41, H⟩ := zlet_e H
      refine zA_aas rfl rfl e36 e44 c37 c38 e39 e41 ?_
      obtain ⟨x45, e46, H⟩ := zlet_e H
      refine zA_inc rfl rfl rfl (e46.trans (congrArg (_ + ·) zkk8)) (zset1 (L' := [some (zrv x0), some (zI x45)]) rfl rfl (zpcV rfl (zcat_rv _))) ?_
      refine zA_go rfl rfl ?_
      exact zA_tr (L := [some (zrv x0), some (zI x45)]) rfl rfl (ih _ _ _ _ _ H)
def zm39_69 (x0 : zq) (h : zH) : zRs Unit :=
  zm39_71 zN0 x0 (0 : Int32) h
theorem zmS39_69 : ∀ (x0 : zq) (h : zH) (r : Unit ⊕ Nat) (h' : zH), zm39_69 x0 h = some (r, h') → zAt 39 69 [some (zrv x0), none] [] h (zoU r) h' := by
  intro x0 h r h' H
  unfold zm39_69 at H
  refine zA_push rfl rfl zkk7 ?_
  refine zA_istn2 rfl rfl rfl (zset1 (L' := [some (zrv x0), some (zI (0 : Int32))]) rfl rfl (zpcV rfl (zcat_rv _))) ?_
  exact zA_tr (L := [some (zrv x0), some (zI (0 : Int32))]) rfl rfl (zmS39_71 zN0 _ _ _ _ _ H)
-- 39: ReleaseHouse.<init>()V
def zm39 (x0 : zq) (h : zH) : zRs Unit :=
  znn x0 fun p21 i22 =>
  zlet (znw h 14 0 3) fun h25 =>
  znn (some (14, zct h 14)) fun p27 i28 =>
  zif ((ztg p27 == 9) = true) <|
  zif (zi h25 p27 i28 1 = 0 ∧ zln h25 p27 i28 = 0) <|
  zlet (zsi h25 p27 i28 1 1) fun h32 =>
  zob 11 x0 fun p34 i35 =>
  zlet (zsr h32 p34 i35 0 (some (14, zct h 14))) fun h38 =>
  zlet (znw h38 15 0 3) fun h40 =>
  znn (some (15, zct h38 15)) fun p42 i43 =>
  zif ((ztg p42 == 9) = true) <|
  zif (zi h40 p42 i43 1 = 0 ∧ zln h40 p42 i43 = 0) <|
  zlet (zsi h40 p42 i43 1 1) fun h47 =>
  zlet (zsr h47 p34 i35 1 (some (15, zct h38 15))) fun h49 =>
  zlet (znw h49 16 0 3) fun h51 =>
  znn (some (16, zct h49 16)) fun p53 i54 =>
  zif ((ztg p53 == 9) = true) <|
  zif (zi h51 p53 i54 1 = 0 ∧ zln h51 p53 i54 = 0) <|
  zlet (zsi h51 p53 i54 1 1) fun h58 =>
  zlet (zsr h58 p34 i35 2 (some (16, zct h49 16))) fun h60 =>
  zlet (znw h60 17 0 3) fun h62 =>
  znn (some (17, zct h60 17)) fun p64 i65 =>
  zif ((ztg p64 == 9) = true) <|
  zif (zi h62 p64 i65 1 = 0 ∧ zln h62 p64 i65 = 0) <|
  zlet (zsi h62 p64 i65 1 1) fun h69 =>
  zlet (zsr h69 p34 i35 3 (some (17, zct h60 17))) fun h71 =>
  zlet (znw h71 18 0 3) fun h73 =>
  znn (some (18, zct h71 18)) fun p75 i76 =>
  zif ((ztg p75 == 9) = true) <|
  zif (zi h73 p75 i76 1 = 0 ∧ zln h73 p75 i76 = 0) <|
  zlet (zsi h73 p75 i76 1 1) fun h80 =>
  zlet (zsr h80 p34 i35 4 (some (18, zct h71 18))) fun h82 =>
  zlet (znw h82 19 0 3) fun h84 =>
  znn (some (19, zct h82 19)) fun p86 i87 =>
  zif ((ztg p86 == 9) = true) <|
  zif (zi h84 p86 i87 1 = 0 ∧ zln h84 p86 i87 = 0) <|
  zlet (zsi h84 p86 i87 1 1) fun h91 =>
  zlet (zsr h91 p34 i35 5 (some (19, zct h82 19))) fun h93 =>
  if (4 : Int32) < 0 ∨ 100000 < (4 : Int32).toNatClampNeg then none else
  zlet (znw h93 33 (4 : Int32).toNatClampNeg (4 : Int32).toNatClampNeg) fun h95 =>
  zlet (zsr h95 p34 i35 6 (some (33, zct h93 33))) fun h97 =>
  if (8 : Int32) < 0 ∨ 100000 < (8 : Int32).toNatClampNeg then none else
  zlet (znw h97 34 (8 : Int32).toNatClampNeg (8 : Int32).toNatClampNeg) fun h99 =>
  zlet (zsr h99 p34 i35 7 (some (34, zct h97 34))) fun h101 =>
  if (3 : Int32) < 0 ∨ 100000 < (3 : Int32).toNatClampNeg then none else
  zlet (znw h101 35 (3 : Int32).toNatClampNeg (3 : Int32).toNatClampNeg) fun h103 =>
  zlet (zsr h103 p34 i35 8 (some (35, zct h101 35))) fun h105 =>
  if (3 : Int32) < 0 ∨ 100000 < (3 : Int32).toNatClampNeg then none else
  zlet (znw h105 36 (3 : Int32).toNatClampNeg (3 : Int32).toNatClampNeg) fun h107 =>
  zlet (zsr h107 p34 i35 9 (some (36, zct h105 36))) fun h109 =>
  if (200 : Int32) < 0 ∨ 100000 < (200 : Int32).toNatClampNeg then none else
  zlet (znw h109 37 (200 : Int32).toNatClampNeg (200 : Int32).toNatClampNeg) fun h111 =>
  zlet (zsr h111 p34 i35 10 (some (37, zct h109 37))) fun h113 =>
  zlet (zsi h113 p34 i35 12 (0 : Int32)) fun h115 =>
  zm39_57 (zm39_69) zN0 x0 (0 : Int32) h115
theorem zmS39 {x0 : zq} {h : zH} {r : Unit ⊕ Nat} {h' : zH} (H : zm39 x0 h = some (r, h')) : zAt 39 0 [some (zrv x0), none] [] h (zoU r) h' := by
  unfold zm39 at H
  refine zA_aldn rfl rfl rfl ?_
  obtain ⟨p21, i22, e23, H⟩ := znn_e H
  refine zA_l0 rfl rfl rfl e23 ?_
  refine zA_aldn rfl rfl rfl ?_
  obtain ⟨h25, e26, H⟩ := zlet_e H
  refine zA_new (n := 3) rfl rfl (fun _ _ _ _ => rfl) e26 ?_
  refine zA_dup rfl rfl (zcat_rv _) ?_
  obtain ⟨p27, i28, e29, H⟩ := znn_e H
  obtain ⟨c30, H⟩ := zif_e H
  obtain ⟨c31, H⟩ := zif_e H
  obtain ⟨h32, e33, H⟩ := zlet_e H
  refine zA_l1 rfl rfl rfl e29 c30 c31 e33 ?_
  obtain ⟨p34, i35, e36, c37, H⟩ := zob_e H
  obtain ⟨h38, e39, H⟩ := zlet_e H
  refine zA_pf3 rfl rfl e36 c37 e39 ?_
  refine zA_aldn rfl rfl rfl ?_
  obtain ⟨h40, e41, H⟩ := zlet_e H
  refine zA_new (n := 3) rfl rfl (fun _ _ _ _ => rfl) e41 ?_
  refine zA_dup rfl rfl (zcat_rv _) ?_
  obtain ⟨p42, i43, e44, H⟩ := znn_e H
  obtain ⟨c45, H⟩ := zif_e H
  obtain ⟨c46, H⟩ := zif_e H
  obtain ⟨h47, e48, H⟩ := zlet_e H
  refine zA_l1 rfl rfl rfl e44 c45 c46 e48 ?_
  obtain ⟨h49, e50, H⟩ := zlet_e H
  refine zA_pf3 rfl rfl e36 c37 e50 ?_
  refine zA_aldn rfl rfl rfl ?_
  obtain ⟨h51, e52, H⟩ := zlet_e H
  refine zA_new (n := 3) rfl rfl (fun _ _ _ _ => rfl) e52 ?_
  refine zA_dup rfl rfl (zcat_rv _) ?_
  obtain ⟨p53, i54, e55, H⟩ := znn_e H
  obtain ⟨c56, H⟩ := zif_e H
  obtain ⟨c57, H⟩ := zif_e H
  obtain ⟨h58, e59, H⟩ := zlet_e H
  refine zA_l1 rfl rfl rfl e55 c56 c57 e59 ?_
  obtain ⟨h60, e61, H⟩ := zlet_e H
  refine zA_pf3 rfl rfl e36 c37 e61 ?_
  refine zA_aldn rfl rfl rfl ?_
  obtain ⟨h62, e63, H⟩ := zlet_e H
  refine zA_new (n := 3) rfl rfl (fun _ _ _ _ => rfl) e63 ?_
  refine zA_dup rfl rfl (zcat_rv _) ?_
  obtain ⟨p64, i65, e66, H⟩ := znn_e H
  obtain ⟨c67, H⟩ := zif_e H
  obtain ⟨c68, H⟩ := zif_e H
  obtain ⟨h69, e70, H⟩ := zlet_e H
  refine zA_l1 rfl rfl rfl e66 c67 c68 e70 ?_
  obtain ⟨h71, e72, H⟩ := zlet_e H
  refine zA_pf3 rfl rfl e36 c37 e72 ?_
  refine zA_aldn rfl rfl rfl ?_
  obtain ⟨h73, e74, H⟩ := zlet_e H
  refine zA_new (n := 3) rfl rfl (fun _ _ _ _ => rfl) e74 ?_
  refine zA_dup rfl rfl (zcat_rv _) ?_
  obtain ⟨p75, i76, e77, H⟩ := znn_e H
  obtain ⟨c78, H⟩ := zif_e H
  obtain ⟨c79, H⟩ := zif_e H
  obtain ⟨h80, e81, H⟩ := zlet_e H
  refine zA_l1 rfl rfl rfl e77 c78 c79 e81 ?_
  obtain ⟨h82, e83, H⟩ := zlet_e H
  refine zA_pf3 rfl rfl e36 c37 e83 ?_
  refine zA_aldn rfl rfl rfl ?_
  obtain ⟨h84, e85, H⟩ := zlet_e H
  refine zA_new (n := 3) rfl rfl (fun _ _ _ _ => rfl) e85 ?_
  refine zA_dup rfl rfl (zcat_rv _) ?_
  obtain ⟨p86, i87, e88, H⟩ := znn_e H
  obtain ⟨c89, H⟩ := zif_e H
  obtain ⟨c90, H⟩ := zif_e H
  obtain ⟨h91, e92, H⟩ := zlet_e H
  refine zA_l1 rfl rfl rfl e88 c89 c90 e92 ?_
  obtain ⟨h93, e94, H⟩ := zlet_e H
  refine zA_pf3 rfl rfl e36 c37 e94 ?_
  refine zA_aldn rfl rfl rfl ?_
  refine zA_push rfl rfl zkk9 ?_
  rcases zite_e H with ⟨_, H⟩ | ⟨ch95, H⟩
  · cases H
  obtain ⟨h95, e96, H⟩ := zlet_e H
  refine zA_newA rfl rfl (fun _ _ _ _ _ => rfl) ch95 e96 ?_
  obtain ⟨h97, e98, H⟩ := zlet_e H
  refine zA_pf3 rfl rfl e36 c37 e98 ?_
  refine zA_aldn rfl rfl rfl ?_
  refine zA_push rfl rfl zkk0 ?_
  rcases zite_e H with ⟨_, H⟩ | ⟨ch99, H⟩
  · cases H
  obtain ⟨h99, e100, H⟩ := zlet_e H
  refine zA_newA rfl rfl (fun _ _ _ _ _ => rfl) ch99 e100 ?_
  obtain ⟨h101, e102, H⟩ := zlet_e H
  refine zA_pf3 rfl rfl e36 c37 e102 ?_
  refine zA_aldn rfl rfl rfl ?_
  refine zA_push rfl rfl zkk3 ?_
  rcases zite_e H with ⟨_, H⟩ | ⟨ch103, H⟩
  · cases H
  obtain ⟨h103, e104, H⟩ := zlet_e H
  refine zA_newA rfl rfl (fun _ _ _ _ _ => rfl) ch103 e104 ?_
  obtain ⟨h105, e106, H⟩ := zlet_e H
  refine zA_pf3 rfl rfl e36 c37 e106 ?_
  refine zA_aldn rfl rfl rfl ?_
  refine zA_push rfl rfl zkk3 ?_
  rcases zite_e H with ⟨_, H⟩ | ⟨ch107, H⟩
  · cases H
  obtain ⟨h107, e108, H⟩ := zlet_e H
  refine zA_newA rfl rfl (fun _ _ _ _ _ => rfl) ch107 e108 ?_
  obtain ⟨h109, e110, H⟩ := zlet_e H
  refine zA_pf3 rfl rfl e36 c37 e110 ?_
  refine zA_aldn rfl rfl rfl ?_
  refine zA_push rfl rfl zkk4 ?_
  rcases zite_e H with ⟨_, H⟩ | ⟨ch111, H⟩
  · cases H
  obtain ⟨h111, e112, H⟩ := zlet_e H
  refine zA_newA rfl rfl (fun _ _ _ _ _ => rfl) ch111 e112 ?_
  obtain ⟨h113, e114, H⟩ := zlet_e H
  refine zA_pf3 rfl rfl e36 c37 e114 ?_
  refine zA_aldn rfl rfl rfl ?_
  refine zA_push rfl rfl zkk7 ?_
  obtain ⟨h115, e116, H⟩ := zlet_e H
  refine zA_pf0 rfl rfl e36 c37 e116 ?_
  refine zA_push rfl rfl zkk7 ?_
  refine zA_istn2 rfl rfl rfl (zset1 (L' := [some (zrv x0), some (zI (0 : Int32))]) rfl rfl (zpcV rfl (zcat_rv _))) ?_
  exact zA_tr (L := [some (zrv x0), some (zI (0 : Int32))]) rfl rfl (zmS39_57 (zmS39_69) zN0 _ _ _ _ _ H)
theorem zmE39 (x0 : zq) : zpad (zPr.2.1 39).1 (zil [zrv x0]) = [some (zrv x0), none] := by
  simp only [zil_A, zil_I, zil_F, zil_D, zil_N]
  rfl
def zm136_260 (k275 : zq → zH → zRs Unit) : Nat → zq → Int32 → zH → zRs Unit
  | 0, _, _, _ => none
  | n + 1, x0, x1, h =>
    if (12 : Int32) ≤ x1 then
      k275 x0 h
    else
      zob 12 x0 fun p22 i23 =>
      zar 1 (zr h p22 i23 12) x1 h fun p26 i27 j28 =>
      zlet (zsi h p26 i27 j28 (-1 : Int32)) fun h33 =>
      zar 1 (zr h33 p22 i23 13) x1 h33 fun p35 i36 j37 =>
      zlet (zsi h33 p35 i36 j37 (-1 : Int32)) fun h42 =>
      zlet (x1 + (1 : Int32)) fun x44 =>
      zm136_260 k275 n x0 x44 h42
theorem zmS136_260 {k275 : zq → zH → zRs Unit} (hk275 : ∀ (x0 : zq) (h : zH) (r : Unit ⊕ Nat) (h' : zH), k275 x0 h = some (r, h') → zAt 136 275 [some (zrv x0), none] [] h (zoU r) h') : ∀ (n : Nat) (x0 : zq) (x1 : Int32) (h : zH) (r : Unit ⊕ Nat) (h' : zH), zm136_260 k275 n x0 x1 h = some (r, h') → zAt 136 260 [some (zrv x0), some (zI x1)] [] h (zoU r) h' := by
  intro n
  induction n with
  | zero => intro x0 x1 h r h' H; cases H
  | succ n ih =>
    intro x0 x1 h r h' H
    unfold zm136_260 at H
    refine zA_ldn rfl rfl rfl ?_
    refine zA_push rfl rfl zkk11 ?_
    rcases zite_e H with ⟨c21, H⟩ | ⟨c21, H⟩
    · refine zA_brT (c := (12 : Int32) ≤ x1) rfl rfl rfl c21 ?_
      exact zA_tr (L := [some (zrv x0), none]) rfl rfl (hk275 _ _ _ _ H)
    · refine zA_brF (c := (12 : Int32) ≤ x1) rfl rfl rfl c21 ?_
      refine zA_aldn rfl rfl rfl ?_
      obtain ⟨p22, i23, e24, c25, H⟩ := zob_e H
      refine zA_gf3 rfl rfl e24 c25 ?_
      refine zA_ldn rfl rfl rfl ?_
      refine zA_push rfl rfl zkk6 ?_
      obtain ⟨p26, i27, j28, e29, c30, c31, e32, H⟩ := zar_e H
      obtain ⟨h33, e34, H⟩ := zlet_e H
      refine zA_ias rfl rfl e29 c30 c31 e32 e34 ?_
      refine zA_aldn rfl rfl rfl ?_
      refine zA_gf3 rfl rfl e24 c25 ?_
      refine zA_ldn rfl rfl rfl ?_
      refine zA_push rfl rfl zkk6 ?_
      obtain ⟨p35, i36, j37, e38, c39, c40, e41, H⟩ := zar_e H
      obtain ⟨h42, e43, H⟩ := zlet_e H
      refine zA_ias rfl rfl e38 c39 c40 e41 e43 ?_
      obtain ⟨x44, e45, H⟩ := zlet_e H
      refine zA_inc rfl rfl rfl (e45.trans (congrArg (_ + ·) zkk8)) (zset1 (L' := [some (zrv x0), some (zI x44)]) rfl rfl (zpcV rfl (zcat_rv _))) ?_
      refine zA_go rfl rfl ?_
      exact zA_tr (L := [some (zrv x0), some (zI x44)]) rfl rfl (ih _ _ _ _ _ H)
def zm136_277 (k287 : zq → zH → zRs Unit) : Nat → zq → Int32 → zH → zRs Unit
  | 0, _, _, _ => none
  | n + 1, x0, x1, h =>
    if (800 : Int32) ≤ x1 then
      k287 x0 h
    else
      zob 12 x0 fun p22 i23 =>
      zar 1 (zr h p22 i23 18) x1 h fun p26 i27 j28 =>
      zlet (zsi h p26 i27 j28 (-1 : Int32)) fun h33 =>
      zlet (x1 + (1 : Int32)) fun x35 =>
      zm136_277 k287 n x0 x35 h33
theorem zmS136_277 {k287 : zq → zH → zRs Unit} (hk287 : ∀ (x0 : zq) (h : zH) (r : Unit ⊕ Nat) (h' : zH), k287 x0 h = some (r, h') → zAt 136 287 [some (zrv x0), none] [] h (zoU r) h') : ∀ (n : Nat) (x0 : zq) (x1 : Int32) (h : zH) (r : Unit ⊕ Nat) (h' : zH), zm136_277 k287 n x0 x1 h = some (r, h') → zAt 136 277 [some (zrv x0), some (zI x1)] [] h (zoU r) h' := by
  intro n
  induction n with
  | zero => intro x0 x1 h r h' H; cases H
  | succ n ih =>
    intro x0 x1 h r h' H
    unfold zm136_277 at H
    refine zA_ldn rfl rfl rfl ?_
    refine zA_push rfl rfl zkk12 ?_
    rcases zite_e H with ⟨c21, H⟩ | ⟨c21, H⟩
    · refine zA_brT (c := (800 : Int32) ≤ x1) rfl rfl rfl c21 ?_
      exact zA_tr (L := [some (zrv x0), none]) rfl rfl (hk287 _ _ _ _ H)
    · refine zA_brF (c := (800 : Int32) ≤ x1) rfl rfl rfl c21 ?_
      refine zA_aldn rfl rfl rfl ?_
      obtain ⟨p22, i23, e24, c25, H⟩ := zob_e H
      refine zA_gf3 rfl rfl e24 c25 ?_
      refine zA_ldn rfl rfl rfl ?_
      refine zA_push rfl rfl zkk6 ?_
      obtain ⟨p26, i27, j28, e29, c30, c31, e32, H⟩ := zar_e H
      obtain ⟨h33, e34, H⟩ := zlet_e H
      refine zA_ias rfl rfl e29 c30 c31 e32 e34 ?_
      obtain ⟨x35, e36, H⟩ := zlet_e H
      refine zA_inc rfl rfl rfl (e36.trans (congrArg (_ + ·) zkk8)) (zset1 (L' := [some (zrv x0), some (zI x35)]) rfl rfl (zpcV rfl (zcat_rv _))) ?_
      refine zA_go rfl rfl ?_
      exact zA_tr (L := [some (zrv x0), some (zI x35)]) rfl rfl (ih _ _ _ _ _ H)
def zm136_289 (k304 : zq → zH → zRs Unit) : Nat → zq → Int32 → zH → zRs Unit
  | 0, _, _, _ => none
  | n + 1, x0, x1, h =>
    if (4 : Int32) ≤ x1 then
      k304 x0 h
    else
      zob 12 x0 fun p22 i23 =>
      zar 1 (zr h p22 i23 21) x1 h fun p26 i27 j28 =>
      zlet (zsi h p26 i27 j28 (1 : Int32)) fun h33 =>
      zar 1 (zr h33 p22 i23 23) x1 h33 fun p35 i36 j37 =>
      zlet (zsi h33 p35 i36 j37 (-1 : Int32)) fun h42 =>
      zlet (x1 + (1 : Int32)) fun x44 =>
      zm136_289 k304 n x0 x44 h42
theorem zmS136_289 {k304 : zq → zH → zRs Unit} (hk304 : ∀ (x0 : zq) (h : zH) (r : Unit ⊕ Nat) (h' : zH), k304 x0 h = some (r, h') → zAt 136 304 [some (zrv x0), none] [] h (zoU r) h') : ∀ (n : Nat) (x0 : zq) (x1 : Int32) (h : zH) (r : Unit ⊕ Nat) (h' : zH), zm136_289 k304 n x0 x1 h = some (r, h') → zAt 136 289 [some (zrv x0), some (zI x1)] [] h (zoU r) h' := by
  intro n
  induction n with
  | zero => intro x0 x1 h r h' H; cases H
  | succ n ih =>
    intro x0 x1 h r h' H
    unfold zm136_289 at H
    refine zA_ldn rfl rfl rfl ?_
    refine zA_push rfl rfl zkk9 ?_
    rcases zite_e H with ⟨c21, H⟩ | ⟨c21, H⟩
    · refine zA_brT (c := (4 : Int32) ≤ x1) rfl rfl rfl c21 ?_
      exact zA_tr (L := [some (zrv x0), none]) rfl rfl (hk304 _ _ _ _ H)
    · refine zA_brF (c := (4 : Int32) ≤ x1) rfl rfl rfl c21 ?_
      refine zA_aldn rfl rfl rfl ?_
      obtain ⟨p22, i23, e24, c25, H⟩ := zob_e H
      refine zA_gf3 rfl rfl e24 c25 ?_
      refine zA_ldn rfl rfl rfl ?_
      refine zA_push rfl rfl zkk5 ?_
      obtain ⟨p26, i27, j28, e29, c30, c31, e32, H⟩ := zar_e H
      obtain ⟨h33, e34, H⟩ := zlet_e H
      refine zA_ias rfl rfl e29 c30 c31 e32 e34 ?_
      refine zA_aldn rfl rfl rfl ?_
      refine zA_gf3 rfl rfl e24 c25 ?_
      refine zA_ldn rfl rfl rfl ?_
      refine zA_push rfl rfl zkk6 ?_
      obtain ⟨p35, i36, j37, e38, c39, c40, e41, H⟩ := zar_e H
      obtain ⟨h42, e43, H⟩ := zlet_e H
      refine zA_ias rfl rfl e38 c39 c40 e41 e43 ?_
      obtain ⟨x44, e45, H⟩ := zlet_e H
      refine zA_inc rfl rfl rfl (e45.trans (congrArg (_ + ·) zkk8)) (zset1 (L' := [some (zrv x0), some (zI x44)]) rfl rfl (zpcV rfl (zcat_rv _))) ?_
      refine zA_go rfl rfl ?_
      exact zA_tr (L := [some (zrv x0), some (zI x44)]) rfl rfl (ih _ _ _ _ _ H)
def zm136_306 : Nat → zq → Int32 → zH → zRs Unit
  | 0, _, _, _ => none
  | n + 1, x0, x1, h =>
    if (8 : Int32) ≤ x1 then
      some (.inl (), h)
    else
      zob 12 x0 fun p22 i23 =>
      zar 1 (zr h p22 i23 62) x1 h fun p26 i27 j28 =>
      zlet (zsi h p26 i27 j28 (-1 : Int32)) fun h33 =>
      zlet (x1 + (1 : Int32)) fun x35 =>
      zm136_306 n x0 x35 h33
theorem zmS136_306 : ∀ (n : Nat) (x0 : zq) (x1 : Int32) (h : zH) (r : Unit ⊕ Nat) (h' : zH), zm136_306 n x0 x1 h = some (r, h') → zAt 136 306 [some (zrv x0), some (zI x1)] [] h (zoU r) h' := by
  intro n
  induction n with
  | zero => intro x0 x1 h r h' H; cases H
  | succ n ih =>
    intro x0 x1 h r h' H
    unfold zm136_306 at H
    refine zA_ldn rfl rfl rfl ?_
    refine zA_push rfl rfl zkk0 ?_
    rcases zite_e H with ⟨c21, H⟩ | ⟨c21, H⟩
    · refine zA_brT (c := (8 : Int32) ≤ x1) rfl rfl rfl c21 ?_
      refine zA_tr (L := [none, none]) rfl rfl ?_
      cases H
      exact zA_ret rfl rfl
    · refine zA_brF (c := (8 : Int32) ≤ x1) rfl rfl rfl c21 ?_
      refine zA_aldn rfl rfl rfl ?_
      obtain ⟨p22, i23, e24, c25, H⟩ := zob_e H
      refine zA_gf3 rfl rfl e24 c25 ?_
      refine zA_ldn rfl rfl rfl ?_
      refine zA_push rfl rfl zkk6 ?_
      obtain ⟨p26, i27, j28, e29, c30, c31, e32, H⟩ := zar_e H
      obtain ⟨h33, e34, H⟩ := zlet_e H
      refine zA_ias rfl rfl e29 c30 c31 e32 e34 ?_
      obtain ⟨x35, e36, H⟩ := zlet_e H
      refine zA_inc rfl rfl rfl (e36.trans (congrArg (_ + ·) zkk8)) (zset1 (L' := [some (zrv x0), some (zI x35)]) rfl rfl (zpcV rfl (zcat_rv _))) ?_
      refine zA_go rfl rfl ?_
      exact zA_tr (L := [some (zrv x0), some (zI x35)]) rfl rfl (ih _ _ _ _ _ H)
def zm136_304 (x0 : zq) (h : zH) : zRs Unit :=
  zm136_306 zN0 x0 (0 : Int32) h
theorem zmS136_304 : ∀ (x0 : zq) (h : zH) (r : Unit ⊕ Nat) (h' : zH), zm136_304 x0 h = some (r, h') → zAt 136 304 [some (zrv x0), none] [] h (zoU r) h' := by
  intro x0 h r h' H
  unfold zm136_304 at H
  refine zA_push rfl rfl zkk7 ?_
  refine zA_istn2 rfl rfl rfl (zset1 (L' := [some (zrv x0), some (zI (0 : Int32))]) rfl rfl (zpcV rfl (zcat_rv _))) ?_
  exact zA_tr (L := [some (zrv x0), some (zI (0 : Int32))]) rfl rfl (zmS136_306 zN0 _ _ _ _ _ H)
def zm136_287 (x0 : zq) (h : zH) : zRs Unit :=
  zm136_289 (zm136_304) zN0 x0 (0 : Int32) h
theorem zmS136_287 : ∀ (x0 : zq) (h : zH) (r : Unit ⊕ Nat) (h' : zH), zm136_287 x0 h = some (r, h') → zAt 136 287 [some (zrv x0), none] [] h (zoU r) h' := by
  intro x0 h r h' H
  unfold zm136_287 at H
  refine zA_push rfl rfl zkk7 ?_
  refine zA_istn2 rfl rfl rfl (zset1 (L' := [some (zrv x0), some (zI (0 : Int32))]) rfl rfl (zpcV rfl (zcat_rv _))) ?_
  exact zA_tr (L := [some (zrv x0), some (zI (0 : Int32))]) rfl rfl (zmS136_289 (zmS136_304) zN0 _ _ _ _ _ H)
def zm136_275 (x0 : zq) (h : zH) : zRs Unit :=
  zm136_277 (zm136_287) zN0 x0 (0 : Int32) h
theorem zmS136_275 : ∀ (x0 : zq) (h : zH) (r : Unit ⊕ Nat) (h' : zH), zm136_275 x0 h = some (r, h') → zAt 136 275 [some (zrv x0), none] [] h (zoU r) h' := by
  intro x0 h r h' H
  unfold zm136_275 at H
  refine zA_push rfl rfl zkk7 ?_
  refine zA_istn2 rfl rfl rfl (zset1 (L' := [some (zrv x0), some (zI (0 : Int32))]) rfl rfl (zpcV rfl (zcat_rv _))) ?_
  exact zA_tr (L := [some (zrv x0), some (zI (0 : Int32))]) rfl rfl (zmS136_277 (zmS136_287) zN0 _ _ _ _ _ H)
-- 136: ReleaseHouseModel.<init>()V
def zm136 (x0 : zq) (h : zH) : zRs Unit :=
  znn x0 fun p21 i22 =>
  if (30 : Int32) < 0 ∨ 100000 < (30 : Int32).toNatClampNeg then none else
  zlet (znw h 103 (30 : Int32).toNatClampNeg (30 : Int32).toNatClampNeg) fun h25 =>
  zob 12 x0 fun p27 i28 =>
  zlet (zsr h25 p27 i28 3 (some (103, zct h 103))) fun h31 =>
  if (30 : Int32) < 0 ∨ 100000 < (30 : Int32).toNatClampNeg then none else
  zlet (znw h31 104 (30 : Int32).toNatClampNeg (30 : Int32).toNatClampNeg) fun h33 =>
  zlet (zsr h33 p27 i28 4 (some (104, zct h31 104))) fun h35 =>
  if (30 : Int32) < 0 ∨ 100000 < (30 : Int32).toNatClampNeg then none else
  zlet (znw h35 105 (30 : Int32).toNatClampNeg (30 : Int32).toNatClampNeg) fun h37 =>
  zlet (zsr h37 p27 i28 5 (some (105, zct h35 105))) fun h39 =>
  if (30 : Int32) < 0 ∨ 100000 < (30 : Int32).toNatClampNeg then none else
  zlet (znw h39 106 (30 : Int32).toNatClampNeg (30 : Int32).toNatClampNeg) fun h41 =>
  zlet (zsr h41 p27 i28 6 (some (106, zct h39 106))) fun h43 =>
  if (30 : Int32) < 0 ∨ 100000 < (30 : Int32).toNatClampNeg then none else
  zlet (znw h43 107 (30 : Int32).toNatClampNeg (30 : Int32).toNatClampNeg) fun h45 =>
  zlet (zsr h45 p27 i28 7 (some (107, zct h43 107))) fun h47 =>
  if (30 : Int32) < 0 ∨ 100000 < (30 : Int32).toNatClampNeg then none else
  zlet (znw h47 108 (30 : Int32).toNatClampNeg (30 : Int32).toNatClampNeg) fun h49 =>
  zlet (zsr h49 p27 i28 8 (some (108, zct h47 108))) fun h51 =>
  if (30 : Int32) < 0 ∨ 100000 < (30 : Int32).toNatClampNeg then none else
  zlet (znw h51 109 (30 : Int32).toNatClampNeg (30 : Int32).toNatClampNeg) fun h53 =>
  zlet (zsr h53 p27 i28 9 (some (109, zct h51 109))) fun h55 =>
  if (30 : Int32) < 0 ∨ 100000 < (30 : Int32).toNatClampNeg then none else
  zlet (znw h55 210 (30 : Int32).toNatClampNeg (30 : Int32).toNatClampNeg) fun h57 =>
  zlet (zsr h57 p27 i28 10 (some (210, zct h55 210))) fun h59 =>
  if (30 : Int32) < 0 ∨ 100000 < (30 : Int32).toNatClampNeg then none else
  zlet (znw h59 211 (30 : Int32).toNatClampNeg (30 : Int32).toNatClampNeg) fun h61 =>
  zlet (zsr h61 p27 i28 11 (some (211, zct h59 211))) fun h63 =>
  if (12 : Int32) < 0 ∨ 100000 < (12 : Int32).toNatClampNeg then none else
  zlet (znw h63 112 (12 : Int32).toNatClampNeg (12 : Int32).toNatClampNeg) fun h65 =>
  zlet (zsr h65 p27 i28 12 (some (112, zct h63 112))) fun h67 =>
  if (12 : Int32) < 0 ∨ 100000 < (12 : Int32).toNatClampNeg then none else
  zlet (znw h67 113 (12 : Int32).toNatClampNeg (12 : Int32).toNatClampNeg) fun h69 =>
  zlet (zsr h69 p27 i28 13 (some (113, zct h67 113))) fun h71 =>
  if (12 : Int32) < 0 ∨ 100000 < (12 : Int32).toNatClampNeg then none else
  zlet (znw h71 114 (12 : Int32).toNatClampNeg (12 : Int32).toNatClampNeg) fun h73 =>
  zlet (zsr h73 p27 i28 14 (some (114, zct h71 114))) fun h75 =>
  if (12 : Int32) < 0 ∨ 100000 < (12 : Int32).toNatClampNeg then none else
  zlet (znw h75 115 (12 : Int32).toNatClampNeg (12 : Int32).toNatClampNeg) fun h77 =>
  zlet (zsr h77 p27 i28 15 (some (115, zct h75 115))) fun h79 =>
  if (12 : Int32) < 0 ∨ 100000 < (12 : Int32).toNatClampNeg then none else
  zlet (znw h79 116 (12 : Int32).toNatClampNeg (12 : Int32).toNatClampNeg) fun h81 =>
  zlet (zsr h81 p27 i28 16 (some (116, zct h79 116))) fun h83 =>
  if (12 : Int32) < 0 ∨ 100000 < (12 : Int32).toNatClampNeg then none else
  zlet (znw h83 117 (12 : Int32).toNatClampNeg (12 : Int32).toNatClampNeg) fun h85 =>
  zlet (zsr h85 p27 i28 17 (some (117, zct h83 117))) fun h87 =>
  if (800 : Int32) < 0 ∨ 100000 < (800 : Int32).toNatClampNeg then none else
  zlet (znw h87 118 (800 : Int32).toNatClampNeg (800 : Int32).toNatClampNeg) fun h89 =>
  zlet (zsr h89 p27 i28 18 (some (118, zct h87 118))) fun h91 =>
  if (32 : Int32) < 0 ∨ 100000 < (32 : Int32).toNatClampNeg then none else
  zlet (znw h91 120 (32 : Int32).toNatClampNeg (32 : Int32).toNatClampNeg) fun h93 =>
  zlet (zsr h93 p27 i28 20 (some (120, zct h91 120))) fun h95 =>
  if (4 : Int32) < 0 ∨ 100000 < (4 : Int32).toNatClampNeg then none else
  zlet (znw h95 121 (4 : Int32).toNatClampNeg (4 : Int32).toNatClampNeg) fun h97 =>
  zlet (zsr h97 p27 i28 21 (some (121, zct h95 121))) fun h99 =>
  if (4 : Int32) < 0 ∨ 100000 < (4 : Int32).toNatClampNeg then none else
  zlet (znw h99 122 (4 : Int32).toNatClampNeg (4 : Int32).toNatClampNeg) fun h101 =>
  zlet (zsr h101 p27 i28 22 (some (122, zct h99 122))) fun h103 =>
  if (4 : Int32) < 0 ∨ 100000 < (4 : Int32).toNatClampNeg then none else
  zlet (znw h103 123 (4 : Int32).toNatClampNeg (4 : Int32).toNatClampNeg) fun h105 =>
  zlet (zsr h105 p27 i28 23 (some (123, zct h103 123))) fun h107 =>
  if (4 : Int32) < 0 ∨ 100000 < (4 : Int32).toNatClampNeg then none else
  zlet (znw h107 124 (4 : Int32).toNatClampNeg (4 : Int32).toNatClampNeg) fun h109 =>
  zlet (zsr h109 p27 i28 24 (some (124, zct h107 124))) fun h111 =>
  if (6 : Int32) < 0 ∨ 100000 < (6 : Int32).toNatClampNeg then none else
  zlet (znw h111 126 (6 : Int32).toNatClampNeg (6 : Int32).toNatClampNeg) fun h113 =>
  zlet (zsr h113 p27 i28 26 (some (126, zct h111 126))) fun h115 =>
  if (60 : Int32) < 0 ∨ 100000 < (60 : Int32).toNatClampNeg then none else
  zlet (znw h115 127 (60 : Int32).toNatClampNeg (60 : Int32).toNatClampNeg) fun h117 =>
  zlet (zsr h117 p27 i28 27 (some (127, zct h115 127))) fun h119 =>
  if (60 : Int32) < 0 ∨ 100000 < (60 : Int32).toNatClampNeg then none else
  zlet (znw h119 128 (60 : Int32).toNatClampNeg (60 : Int32).toNatClampNeg) fun h121 =>
  zlet (zsr h121 p27 i28 28 (some (128, zct h119 128))) fun h123 =>
  if (60 : Int32) < 0 ∨ 100000 < (60 : Int32).toNatClampNeg then none else
  zlet (znw h123 129 (60 : Int32).toNatClampNeg (60 : Int32).toNatClampNeg) fun h125 =>
  zlet (zsr h125 p27 i28 29 (some (129, zct h123 129))) fun h127 =>
  if (20 : Int32) < 0 ∨ 100000 < (20 : Int32).toNatClampNeg then none else
  zlet (znw h127 131 (20 : Int32).toNatClampNeg (20 : Int32).toNatClampNeg) fun h129 =>
  zlet (zsr h129 p27 i28 31 (some (131, zct h127 131))) fun h131 =>
  if (20 : Int32) < 0 ∨ 100000 < (20 : Int32).toNatClampNeg then none else
  zlet (znw h131 132 (20 : Int32).toNatClampNeg (20 : Int32).toNatClampNeg) fun h133 =>
  zlet (zsr h133 p27 i28 32 (some (132, zct h131 132))) fun h135 =>
  if (20 : Int32) < 0 ∨ 100000 < (20 : Int32).toNatClampNeg then none else
  zlet (znw h135 133 (20 : Int32).toNatClampNeg (20 : Int32).toNatClampNeg) fun h137 =>
  zlet (zsr h137 p27 i28 33 (some (133, zct h135 133))) fun h139 =>
  if (20 : Int32) < 0 ∨ 100000 < (20 : Int32).toNatClampNeg then none else
  zlet (znw h139 134 (20 : Int32).toNatClampNeg (20 : Int32).toNatClampNeg) fun h141 =>
  zlet (zsr h141 p27 i28 34 (some (134, zct h139 134))) fun h143 =>
  if (20 : Int32) < 0 ∨ 100000 < (20 : Int32).toNatClampNeg then none else
  zlet (znw h143 135 (20 : Int32).toNatClampNeg (20 : Int32).toNatClampNeg) fun h145 =>
  zlet (zsr h145 p27 i28 35 (some (135, zct h143 135))) fun h147 =>
  if (20 : Int32) < 0 ∨ 100000 < (20 : Int32).toNatClampNeg then none else
  zlet (znw h147 136 (20 : Int32).toNatClampNeg (20 : Int32).toNatClampNeg) fun h149 =>
  zlet (zsr h149 p27 i28 36 (some (136, zct h147 136))) fun h151 =>
  if (20 : Int32) < 0 ∨ 100000 < (20 : Int32).toNatClampNeg then none else
  zlet (znw h151 237 (20 : Int32).toNatClampNeg (20 : Int32).toNatClampNeg) fun h153 =>
  zlet (zsr h153 p27 i28 37 (some (237, zct h151 237))) fun h155 =>
  if (20 : Int32) < 0 ∨ 100000 < (20 : Int32).toNatClampNeg then none else
  zlet (znw h155 238 (20 : Int32).toNatClampNeg (20 : Int32).toNatClampNeg) fun h157 =>
  zlet (zsr h157 p27 i28 38 (some (238, zct h155 238))) fun h159 =>
  if (20 : Int32) < 0 ∨ 100000 < (20 : Int32).toNatClampNeg then none else
  zlet (znw h159 140 (20 : Int32).toNatClampNeg (20 : Int32).toNatClampNeg) fun h161 =>
  zlet (zsr h161 p27 i28 40 (some (140, zct h159 140))) fun h163 =>
  if (60 : Int32) < 0 ∨ 100000 < (60 : Int32).toNatClampNeg then none else
  zlet (znw h163 241 (60 : Int32).toNatClampNeg (60 : Int32).toNatClampNeg) fun h165 =>
  zlet (zsr h165 p27 i28 41 (some (241, zct h163 241))) fun h167 =>
  if (60 : Int32) < 0 ∨ 100000 < (60 : Int32).toNatClampNeg then none else
  zlet (znw h167 142 (60 : Int32).toNatClampNeg (60 : Int32).toNatClampNeg) fun h169 =>
  zlet (zsr h169 p27 i28 42 (some (142, zct h167 142))) fun h171 =>
  if (24 : Int32) < 0 ∨ 100000 < (24 : Int32).toNatClampNeg then none else
  zlet (znw h171 147 (24 : Int32).toNatClampNeg (24 : Int32).toNatClampNeg) fun h173 =>
  zlet (zsr h173 p27 i28 47 (some (147, zct h171 147))) fun h175 =>
  if (14400 : Int32) < 0 ∨ 100000 < (14400 : Int32).toNatClampNeg then none else
  zlet (znw h175 248 (14400 : Int32).toNatClampNeg (14400 : Int32).toNatClampNeg) fun h177 =>
  zlet (zsr h177 p27 i28 48 (some (248, zct h175 248))) fun h179 =>
  if (14400 : Int32) < 0 ∨ 100000 < (14400 : Int32).toNatClampNeg then none else
  zlet (znw h179 149 (14400 : Int32).toNatClampNeg (14400 : Int32).toNatClampNeg) fun h181 =>
  zlet (zsr h181 p27 i28 49 (some (149, zct h179 149))) fun h183 =>
  if (4 : Int32) < 0 ∨ 100000 < (4 : Int32).toNatClampNeg then none else
  zlet (znw h183 250 (4 : Int32).toNatClampNeg (4 : Int32).toNatClampNeg) fun h185 =>
  zlet (zsr h185 p27 i28 50 (some (250, zct h183 250))) fun h187 =>
  if (8 : Int32) < 0 ∨ 100000 < (8 : Int32).toNatClampNeg then none else
  zlet (znw h187 152 (8 : Int32).toNatClampNeg (8 : Int32).toNatClampNeg) fun h189 =>
  zlet (zsr h189 p27 i28 52 (some (152, zct h187 152))) fun h191 =>
  if (8 : Int32) < 0 ∨ 100000 < (8 : Int32).toNatClampNeg then none else
  zlet (znw h191 153 (8 : Int32).toNatClampNeg (8 : Int32).toNatClampNeg) fun h193 =>
  zlet (zsr h193 p27 i28 53 (some (153, zct h191 153))) fun h195 =>
  if (8 : Int32) < 0 ∨ 100000 < (8 : Int32).toNatClampNeg then none else
  zlet (znw h195 154 (8 : Int32).toNatClampNeg (8 : Int32).toNatClampNeg) fun h197 =>
  zlet (zsr h197 p27 i28 54 (some (154, zct h195 154))) fun h199 =>
  if (8 : Int32) < 0 ∨ 100000 < (8 : Int32).toNatClampNeg then none else
  zlet (znw h199 155 (8 : Int32).toNatClampNeg (8 : Int32).toNatClampNeg) fun h201 =>
  zlet (zsr h201 p27 i28 55 (some (155, zct h199 155))) fun h203 =>
  if (9 : Int32) < 0 ∨ 100000 < (9 : Int32).toNatClampNeg then none else
  zlet (znw h203 256 (9 : Int32).toNatClampNeg (9 : Int32).toNatClampNeg) fun h205 =>
  zlet (zsr h205 p27 i28 56 (some (256, zct h203 256))) fun h207 =>
  if (3 : Int32) < 0 ∨ 100000 < (3 : Int32).toNatClampNeg then none else
  zlet (znw h207 157 (3 : Int32).toNatClampNeg (3 : Int32).toNatClampNeg) fun h209 =>
  zlet (zsr h209 p27 i28 57 (some (157, zct h207 157))) fun h211 =>
  if (6 : Int32) < 0 ∨ 100000 < (6 : Int32).toNatClampNeg then none else
  zlet (znw h211 159 (6 : Int32).toNatClampNeg (6 : Int32).toNatClampNeg) fun h213 =>
  zlet (zsr h213 p27 i28 59 (some (159, zct h211 159))) fun h215 =>
  if (6 : Int32) < 0 ∨ 100000 < (6 : Int32).toNatClampNeg then none else
  zlet (znw h215 160 (6 : Int32).toNatClampNeg (6 : Int32).toNatClampNeg) fun h217 =>
  zlet (zsr h217 p27 i28 60 (some (160, zct h215 160))) fun h219 =>
  if (8 : Int32) < 0 ∨ 100000 < (8 : Int32).toNatClampNeg then none else
  zlet (znw h219 161 (8 : Int32).toNatClampNeg (8 : Int32).toNatClampNeg) fun h221 =>
  zlet (zsr h221 p27 i28 61 (some (161, zct h219 161))) fun h223 =>
  if (8 : Int32) < 0 ∨ 100000 < (8 : Int32).toNatClampNeg then none else
  zlet (znw h223 162 (8 : Int32).toNatClampNeg (8 : Int32).toNatClampNeg) fun h225 =>
  zlet (zsr h225 p27 i28 62 (some (162, zct h223 162))) fun h227 =>
  if (8 : Int32) < 0 ∨ 100000 < (8 : Int32).toNatClampNeg then none else
  zlet (znw h227 263 (8 : Int32).toNatClampNeg (8 : Int32).toNatClampNeg) fun h229 =>
  zlet (zsr h229 p27 i28 63 (some (263, zct h227 263))) fun h231 =>
  if (8 : Int32) < 0 ∨ 100000 < (8 : Int32).toNatClampNeg then none else
  zlet (znw h231 164 (8 : Int32).toNatClampNeg (8 : Int32).toNatClampNeg) fun h233 =>
  zlet (zsr h233 p27 i28 64 (some (164, zct h231 164))) fun h235 =>
  if (8 : Int32) < 0 ∨ 100000 < (8 : Int32).toNatClampNeg then none else
  zlet (znw h235 165 (8 : Int32).toNatClampNeg (8 : Int32).toNatClampNeg) fun h237 =>
  zlet (zsr h237 p27 i28 65 (some (165, zct h235 165))) fun h239 =>
  if (32 : Int32) < 0 ∨ 100000 < (32 : Int32).toNatClampNeg then none else
  zlet (znw h239 166 (32 : Int32).toNatClampNeg (32 : Int32).toNatClampNeg) fun h241 =>
  zlet (zsr h241 p27 i28 66 (some (166, zct h239 166))) fun h243 =>
  if (32 : Int32) < 0 ∨ 100000 < (32 : Int32).toNatClampNeg then none else
  zlet (znw h243 267 (32 : Int32).toNatClampNeg (32 : Int32).toNatClampNeg) fun h245 =>
  zlet (zsr h245 p27 i28 67 (some (267, zct h243 267))) fun h247 =>
  if (32 : Int32) < 0 ∨ 100000 < (32 : Int32).toNatClampNeg then none else
  zlet (znw h247 168 (32 : Int32).toNatClampNeg (32 : Int32).toNatClampNeg) fun h249 =>
  zlet (zsr h249 p27 i28 68 (some (168, zct h247 168))) fun h251 =>
  if (32 : Int32) < 0 ∨ 100000 < (32 : Int32).toNatClampNeg then none else
  zlet (znw h251 169 (32 : Int32).toNatClampNeg (32 : Int32).toNatClampNeg) fun h253 =>
  zlet (zsr h253 p27 i28 69 (some (169, zct h251 169))) fun h255 =>
  if (200 : Int32) < 0 ∨ 100000 < (200 : Int32).toNatClampNeg then none else
  zlet (znw h255 170 (200 : Int32).toNatClampNeg (200 : Int32).toNatClampNeg) fun h257 =>
  zlet (zsr h257 p27 i28 70 (some (170, zct h255 170))) fun h259 =>
  if (8 : Int32) < 0 ∨ 100000 < (8 : Int32).toNatClampNeg then none else
  zlet (znw h259 172 (8 : Int32).toNatClampNeg (8 : Int32).toNatClampNeg) fun h261 =>
  zlet (zsr h261 p27 i28 72 (some (172, zct h259 172))) fun h263 =>
  if (8 : Int32) < 0 ∨ 100000 < (8 : Int32).toNatClampNeg then none else
  zlet (znw h263 173 (8 : Int32).toNatClampNeg (8 : Int32).toNatClampNeg) fun h265 =>
  zlet (zsr h265 p27 i28 73 (some (173, zct h263 173))) fun h267 =>
  if (8 : Int32) < 0 ∨ 100000 < (8 : Int32).toNatClampNeg then none else
  zlet (znw h267 174 (8 : Int32).toNatClampNeg (8 : Int32).toNatClampNeg) fun h269 =>
  zlet (zsr h269 p27 i28 74 (some (174, zct h267 174))) fun h271 =>
  if (8 : Int32) < 0 ∨ 100000 < (8 : Int32).toNatClampNeg then none else
  zlet (znw h271 175 (8 : Int32).toNatClampNeg (8 : Int32).toNatClampNeg) fun h273 =>
  zlet (zsr h273 p27 i28 75 (some (175, zct h271 175))) fun h275 =>
  if (8 : Int32) < 0 ∨ 100000 < (8 : Int32).toNatClampNeg then none else
  zlet (znw h275 176 (8 : Int32).toNatClampNeg (8 : Int32).toNatClampNeg) fun h277 =>
  zlet (zsr h277 p27 i28 76 (some (176, zct h275 176))) fun h279 =>
  if (8 : Int32) < 0 ∨ 100000 < (8 : Int32).toNatClampNeg then none else
  zlet (znw h279 277 (8 : Int32).toNatClampNeg (8 : Int32).toNatClampNeg) fun h281 =>
  zlet (zsr h281 p27 i28 77 (some (277, zct h279 277))) fun h283 =>
  zm136_260 (zm136_275) zN0 x0 (0 : Int32) h283
theorem zmS136 {x0 : zq} {h : zH} {r : Unit ⊕ Nat} {h' : zH} (H : zm136 x0 h = some (r, h')) : zAt 136 0 [some (zrv x0), none] [] h (zoU r) h' := by
  unfold zm136 at H
  refine zA_aldn rfl rfl rfl ?_
  obtain ⟨p21, i22, e23, H⟩ := znn_e H
  refine zA_l0 rfl rfl rfl e23 ?_
  refine zA_aldn rfl rfl rfl ?_
  refine zA_push rfl rfl zkk10 ?_
  rcases zite_e H with ⟨_, H⟩ | ⟨ch25, H⟩
  · cases H
  obtain ⟨h25, e26, H⟩ := zlet_e H
  refine zA_newA rfl rfl (fun _ _ _ _ _ => rfl) ch25 e26 ?_
  obtain ⟨p27, i28, e29, c30, H⟩ := zob_e H
  obtain ⟨h31, e32, H⟩ := zlet_e H
  refine zA_pf3 rfl rfl e29 c30 e32 ?_
  refine zA_aldn rfl rfl rfl ?_
  refine zA_push rfl rfl zkk10 ?_
  rcases zite_e H with ⟨_, H⟩ | ⟨ch33, H⟩
  · cases H
  obtain ⟨h33, e34, H⟩ := zlet_e H
  refine zA_newA rfl rfl (fun _ _ _ _ _ => rfl) ch33 e34 ?_
  obtain ⟨h35, e36, H⟩ := zlet_e H
  refine zA_pf3 rfl rfl e29 c30 e36 ?_
  refine zA_aldn rfl rfl rfl ?_
  refine zA_push rfl rfl zkk10 ?_
  rcases zite_e H with ⟨_, H⟩ | ⟨ch37, H⟩
  · cases H
  obtain ⟨h37, e38, H⟩ := zlet_e H
  refine zA_newA rfl rfl (fun _ _ _ _ _ => rfl) ch37 e38 ?_
  obtain ⟨h39, e40, H⟩ := zlet_e H
  refine zA_pf3 rfl rfl e29 c30 e40 ?_
  refine zA_aldn rfl rfl rfl ?_
  refine zA_push rfl rfl zkk10 ?_
  rcases zite_e H with ⟨_, H⟩ | ⟨ch41, H⟩
  · cases H
  obtain ⟨h41, e42, H⟩ := zlet_e H
  refine zA_newA rfl rfl (fun _ _ _ _ _ => rfl) ch41 e42 ?_
  obtain ⟨h43, e44, H⟩ := zlet_e H
  refine zA_pf3 rfl rfl e29 c30 e44 ?_
  refine zA_aldn rfl rfl rfl ?_
  refine zA_push rfl rfl zkk10 ?_
  rcases zite_e H with ⟨_, H⟩ | ⟨ch45, H⟩
  · cases H
  obtain ⟨h45, e46, H⟩ := zlet_e H
  refine zA_newA rfl rfl (fun _ _ _ _ _ => rfl) ch45 e46 ?_
  obtain ⟨h47, e48, H⟩ := zlet_e H
  refine zA_pf3 rfl rfl e29 c30 e48 ?_
  refine zA_aldn rfl rfl rfl ?_
  refine zA_push rfl rfl zkk10 ?_
  rcases zite_e H with ⟨_, H⟩ | ⟨ch49, H⟩
  · cases H
  obtain ⟨h49, e50, H⟩ := zlet_e H
  refine zA_newA rfl rfl (fun _ _ _ _ _ => rfl) ch49 e50 ?_
  obtain ⟨h51, e52, H⟩ := zlet_e H
  refine zA_pf3 rfl rfl e29 c30 e52 ?_
  refine zA_aldn rfl rfl rfl ?_
  refine zA_push rfl rfl zkk10 ?_
  rcases zite_e H with ⟨_, H⟩ | ⟨ch53, H⟩
  · cases H
  obtain ⟨h53, e54, H⟩ := zlet_e H
  refine zA_newA rfl rfl (fun _ _ _ _ _ => rfl) ch53 e54 ?_
  obtain ⟨h55, e56, H⟩ := zlet_e H
  refine zA_pf3 rfl rfl e29 c30 e56 ?_
  refine zA_aldn rfl rfl rfl ?_
  refine zA_push rfl rfl zkk10 ?_
  rcases zite_e H with ⟨_, H⟩ | ⟨ch57, H⟩
  · cases H
  obtain ⟨h57, e58, H⟩ := zlet_e H
  refine zA_newA rfl rfl (fun _ _ _ _ _ => rfl) ch57 e58 ?_
  obtain ⟨h59, e60, H⟩ := zlet_e H
  refine zA_pf3 rfl rfl e29 c30 e60 ?_
  refine zA_aldn rfl rfl rfl ?_
  refine zA_push rfl rfl zkk10 ?_
  rcases zite_e H with ⟨_, H⟩ | ⟨ch61, H⟩
  · cases H
  obtain ⟨h61, e62, H⟩ := zlet_e H
  refine zA_newA rfl rfl (fun _ _ _ _ _ => rfl) ch61 e62 ?_
  obtain ⟨h63, e64, H⟩ := zlet_e H
  refine zA_pf3 rfl rfl e29 c30 e64 ?_
  refine zA_aldn rfl rfl rfl ?_
  refine zA_push rfl rfl zkk11 ?_
  rcases zite_e H with ⟨_, H⟩ | ⟨ch65, H⟩
  · cases H
  obtain ⟨h65, e66, H⟩ := zlet_e H
  refine zA_newA rfl rfl (fun _ _ _ _ _ => rfl) ch65 e66 ?_
  obtain ⟨h67, e68, H⟩ := zlet_e H
  refine zA_pf3 rfl rfl e29 c30 e68 ?_
  refine zA_aldn rfl rfl rfl ?_
  refine zA_push rfl rfl zkk11 ?_
  rcases zite_e H with ⟨_, H⟩ | ⟨ch69, H⟩
  · cases H
  obtain ⟨h69, e70, H⟩ := zlet_e H
  refine zA_newA rfl rfl (fun _ _ _ _ _ => rfl) ch69 e70 ?_
  obtain ⟨h71, e72, H⟩ := zlet_e H
  refine zA_pf3 rfl rfl e29 c30 e72 ?_
  refine zA_aldn rfl rfl rfl ?_
  refine zA_push rfl rfl zkk11 ?_
  rcases zite_e H with ⟨_, H⟩ | ⟨ch73, H⟩
  · cases H
  obtain ⟨h73, e74, H⟩ := zlet_e H
  refine zA_newA rfl rfl (fun _ _ _ _ _ => rfl) ch73 e74 ?_
  obtain ⟨h75, e76, H⟩ := zlet_e H
  refine zA_pf3 rfl rfl e29 c30 e76 ?_
  refine zA_aldn rfl rfl rfl ?_
  refine zA_push rfl rfl zkk11 ?_
  rcases zite_e H with ⟨_, H⟩ | ⟨ch77, H⟩
  · cases H
  obtain ⟨h77, e78, H⟩ := zlet_e H
  refine zA_newA rfl rfl (fun _ _ _ _ _ => rfl) ch77 e78 ?_
  obtain ⟨h79, e80, H⟩ := zlet_e H
  refine zA_pf3 rfl rfl e29 c30 e80 ?_
  refine zA_aldn rfl rfl rfl ?_
  refine zA_push rfl rfl zkk11 ?_
  rcases zite_e H with ⟨_, H⟩ | ⟨ch81, H⟩
  · cases H
  obtain ⟨h81, e82, H⟩ := zlet_e H
  refine zA_newA rfl rfl (fun _ _ _ _ _ => rfl) ch81 e82 ?_
  obtain ⟨h83, e84, H⟩ := zlet_e H
  refine zA_pf3 rfl rfl e29 c30 e84 ?_
  refine zA_aldn rfl rfl rfl ?_
  refine zA_push rfl rfl zkk11 ?_
  rcases zite_e H with ⟨_, H⟩ | ⟨ch85, H⟩
  · cases H
  obtain ⟨h85, e86, H⟩ := zlet_e H
  refine zA_newA rfl rfl (fun _ _ _ _ _ => rfl) ch85 e86 ?_
  obtain ⟨h87, e88, H⟩ := zlet_e H
  refine zA_pf3 rfl rfl e29 c30 e88 ?_
  refine zA_aldn rfl rfl rfl ?_
  refine zA_push rfl rfl zkk12 ?_
  rcases zite_e H with ⟨_, H⟩ | ⟨ch89, H⟩
  · cases H
  obtain ⟨h89, e90, H⟩ := zlet_e H
  refine zA_newA rfl rfl (fun _ _ _ _ _ => rfl) ch89 e90 ?_
  obtain ⟨h91, e92, H⟩ := zlet_e H
  refine zA_pf3 rfl rfl e29 c30 e92 ?_
  refine zA_aldn rfl rfl rfl ?_
  refine zA_push rfl rfl zkk13 ?_
  rcases zite_e H with ⟨_, H⟩ | ⟨ch93, H⟩
  · cases H
  obtain ⟨h93, e94, H⟩ := zlet_e H
  refine zA_newA rfl rfl (fun _ _ _ _ _ => rfl) ch93 e94 ?_
  obtain ⟨h95, e96, H⟩ := zlet_e H
  refine zA_pf3 rfl rfl e29 c30 e96 ?_
  refine zA_aldn rfl rfl rfl ?_
  refine zA_push rfl rfl zkk9 ?_
  rcases zite_e H with ⟨_, H⟩ | ⟨ch97, H⟩
  · cases H
  obtain ⟨h97, e98, H⟩ := zlet_e H
  refine zA_newA rfl rfl (fun _ _ _ _ _ => rfl) ch97 e98 ?_
  obtain ⟨h99, e100, H⟩ := zlet_e H
  refine zA_pf3 rfl rfl e29 c30 e100 ?_
  refine zA_aldn rfl rfl rfl ?_
  refine zA_push rfl rfl zkk9 ?_
  rcases zite_e H with ⟨_, H⟩ | ⟨ch101, H⟩
  · cases H
  obtain ⟨h101, e102, H⟩ := zlet_e H
  refine zA_newA rfl rfl (fun _ _ _ _ _ => rfl) ch101 e102 ?_
  obtain ⟨h103, e104, H⟩ := zlet_e H
  refine zA_pf3 rfl rfl e29 c30 e104 ?_
  refine zA_aldn rfl rfl rfl ?_
  refine zA_push rfl rfl zkk9 ?_
  rcases zite_e H with ⟨_, H⟩ | ⟨ch105, H⟩
  · cases H
  obtain ⟨h105, e106, H⟩ := zlet_e H
  refine zA_newA rfl rfl (fun _ _ _ _ _ => rfl) ch105 e106 ?_
  obtain ⟨h107, e108, H⟩ := zlet_e H
  refine zA_pf3 rfl rfl e29 c30 e108 ?_
  refine zA_aldn rfl rfl rfl ?_
  refine zA_push rfl rfl zkk9 ?_
  rcases zite_e H with ⟨_, H⟩ | ⟨ch109, H⟩
  · cases H
  obtain ⟨h109, e110, H⟩ := zlet_e H
  refine zA_newA rfl rfl (fun _ _ _ _ _ => rfl) ch109 e110 ?_
  obtain ⟨h111, e112, H⟩ := zlet_e H
  refine zA_pf3 rfl rfl e29 c30 e112 ?_
  refine zA_aldn rfl rfl rfl ?_
  refine zA_push rfl rfl zkk14 ?_
  rcases zite_e H with ⟨_, H⟩ | ⟨ch113, H⟩
  · cases H
  obtain ⟨h113, e114, H⟩ := zlet_e H
  refine zA_newA rfl rfl (fun _ _ _ _ _ => rfl) ch113 e114 ?_
  obtain ⟨h115, e116, H⟩ := zlet_e H
  refine zA_pf3 rfl rfl e29 c30 e116 ?_
  refine zA_aldn rfl rfl rfl ?_
  refine zA_push rfl rfl zkk15 ?_
  rcases zite_e H with ⟨_, H⟩ | ⟨ch117, H⟩
  · cases H
  obtain ⟨h117, e118, H⟩ := zlet_e H
  refine zA_newA rfl rfl (fun _ _ _ _ _ => rfl) ch117 e118 ?_
  obtain ⟨h119, e120, H⟩ := zlet_e H
  refine zA_pf3 rfl rfl e29 c30 e120 ?_
  refine zA_aldn rfl rfl rfl ?_
  refine zA_push rfl rfl zkk15 ?_
  rcases zite_e H with ⟨_, H⟩ | ⟨ch121, H⟩
  · cases H
  obtain ⟨h121, e122, H⟩ := zlet_e H
  refine zA_newA rfl rfl (fun _ _ _ _ _ => rfl) ch121 e122 ?_
  obtain ⟨h123, e124, H⟩ := zlet_e H
  refine zA_pf3 rfl rfl e29 c30 e124 ?_
  refine zA_aldn rfl rfl rfl ?_
  refine zA_push rfl rfl zkk15 ?_
  rcases zite_e H with ⟨_, H⟩ | ⟨ch125, H⟩
  · cases H
  obtain ⟨h125, e126, H⟩ := zlet_e H
  refine zA_newA rfl rfl (fun _ _ _ _ _ => rfl) ch125 e126 ?_
  obtain ⟨h127, e128, H⟩ := zlet_e H
  refine zA_pf3 rfl rfl e29 c30 e128 ?_
  refine zA_aldn rfl rfl rfl ?_
  refine zA_push rfl rfl zkk16 ?_
  rcases zite_e H with ⟨_, H⟩ | ⟨ch129, H⟩
  · cases H
  obtain ⟨h129, e130, H⟩ := zlet_e H
  refine zA_newA rfl rfl (fun _ _ _ _ _ => rfl) ch129 e130 ?_
  obtain ⟨h131, e132, H⟩ := zlet_e H
  refine zA_pf3 rfl rfl e29 c30 e132 ?_
  refine zA_aldn rfl rfl rfl ?_
  refine zA_push rfl rfl zkk16 ?_
  rcases zite_e H with ⟨_, H⟩ | ⟨ch133, H⟩
  · cases H
  obtain ⟨h133, e134, H⟩ := zlet_e H
  refine zA_newA rfl rfl (fun _ _ _ _ _ => rfl) ch133 e134 ?_
  obtain ⟨h135, e136, H⟩ := zlet_e H
  refine zA_pf3 rfl rfl e29 c30 e136 ?_
  refine zA_aldn rfl rfl rfl ?_
  refine zA_push rfl rfl zkk16 ?_
  rcases zite_e H with ⟨_, H⟩ | ⟨ch137, H⟩
  · cases H
  obtain ⟨h137, e138, H⟩ := zlet_e H
  refine zA_newA rfl rfl (fun _ _ _ _ _ => rfl) ch137 e138 ?_
  obtain ⟨h139, e140, H⟩ := zlet_e H
  refine zA_pf3 rfl rfl e29 c30 e140 ?_
  refine zA_aldn rfl rfl rfl ?_
  refine zA_push rfl rfl zkk16 ?_
  rcases zite_e H with ⟨_, H⟩ | ⟨ch141, H⟩
  · cases H
  obtain ⟨h141, e142, H⟩ := zlet_e H
  refine zA_newA rfl rfl (fun _ _ _ _ _ => rfl) ch141 e142 ?_
  obtain ⟨h143, e144, H⟩ := zlet_e H
  refine zA_pf3 rfl rfl e29 c30 e144 ?_
  refine zA_aldn rfl rfl rfl ?_
  refine zA_push rfl rfl zkk16 ?_
  rcases zite_e H with ⟨_, H⟩ | ⟨ch145, H⟩
  · cases H
  obtain ⟨h145, e146, H⟩ := zlet_e H
  refine zA_newA rfl rfl (fun _ _ _ _ _ => rfl) ch145 e146 ?_
  obtain ⟨h147, e148, H⟩ := zlet_e H
  refine zA_pf3 rfl rfl e29 c30 e148 ?_
  refine zA_aldn rfl rfl rfl ?_
  refine zA_push rfl rfl zkk16 ?_
  rcases zite_e H with ⟨_, H⟩ | ⟨ch149, H⟩
  · cases H
  obtain ⟨h149, e150, H⟩ := zlet_e H
  refine zA_newA rfl rfl (fun _ _ _ _ _ => rfl) ch149 e150 ?_
  obtain ⟨h151, e152, H⟩ := zlet_e H
  refine zA_pf3 rfl rfl e29 c30 e152 ?_
  refine zA_aldn rfl rfl rfl ?_
  refine zA_push rfl rfl zkk16 ?_
  rcases zite_e H with ⟨_, H⟩ | ⟨ch153, H⟩
  · cases H
  obtain ⟨h153, e154, H⟩ := zlet_e H
  refine zA_newA rfl rfl (fun _ _ _ _ _ => rfl) ch153 e154 ?_
  obtain ⟨h155, e156, H⟩ := zlet_e H
  refine zA_pf3 rfl rfl e29 c30 e156 ?_
  refine zA_aldn rfl rfl rfl ?_
  refine zA_push rfl rfl zkk16 ?_
  rcases zite_e H with ⟨_, H⟩ | ⟨ch157, H⟩
  · cases H
  obtain ⟨h157, e158, H⟩ := zlet_e H
  refine zA_newA rfl rfl (fun _ _ _ _ _ => rfl) ch157 e158 ?_
  obtain ⟨h159, e160, H⟩ := zlet_e H
  refine zA_pf3 rfl rfl e29 c30 e160 ?_
  refine zA_aldn rfl rfl rfl ?_
  refine zA_push rfl rfl zkk16 ?_
  rcases zite_e H with ⟨_, H⟩ | ⟨ch161, H⟩
  · cases H
  obtain ⟨h161, e162, H⟩ := zlet_e H
  refine zA_newA rfl rfl (fun _ _ _ _ _ => rfl) ch161 e162 ?_
  obtain ⟨h163, e164, H⟩ := zlet_e H
  refine zA_pf3 rfl rfl e29 c30 e164 ?_
  refine zA_aldn rfl rfl rfl ?_
  refine zA_push rfl rfl zkk15 ?_
  rcases zite_e H with ⟨_, H⟩ | ⟨ch165, H⟩
  · cases H
  obtain ⟨h165, e166, H⟩ := zlet_e H
  refine zA_newA rfl rfl (fun _ _ _ _ _ => rfl) ch165 e166 ?_
  obtain ⟨h167, e168, H⟩ := zlet_e H
  refine zA_pf3 rfl rfl e29 c30 e168 ?_
  refine zA_aldn rfl rfl rfl ?_
  refine zA_push rfl rfl zkk15 ?_
  rcases zite_e H with ⟨_, H⟩ | ⟨ch169, H⟩
  · cases H
  obtain ⟨h169, e170, H⟩ := zlet_e H
  refine zA_newA rfl rfl (fun _ _ _ _ _ => rfl) ch169 e170 ?_
  obtain ⟨h171, e172, H⟩ := zlet_e H
  refine zA_pf3 rfl rfl e29 c30 e172 ?_
  refine zA_aldn rfl rfl rfl ?_
  refine zA_push rfl rfl zkk17 ?_
  rcases zite_e H with ⟨_, H⟩ | ⟨ch173, H⟩
  · cases H
  obtain ⟨h173, e174, H⟩ := zlet_e H
  refine zA_newA rfl rfl (fun _ _ _ _ _ => rfl) ch173 e174 ?_
  obtain ⟨h175, e176, H⟩ := zlet_e H
  refine zA_pf3 rfl rfl e29 c30 e176 ?_
  refine zA_aldn rfl rfl rfl ?_
  refine zA_push rfl rfl zkk18 ?_
  rcases zite_e H with ⟨_, H⟩ | ⟨ch177, H⟩
  · cases H
  obtain ⟨h177, e178, H⟩ := zlet_e H
  refine zA_newA rfl rfl (fun _ _ _ _ _ => rfl) ch177 e178 ?_
  obtain ⟨h179, e180, H⟩ := zlet_e H
  refine zA_pf3 rfl rfl e29 c30 e180 ?_
  refine zA_aldn rfl rfl rfl ?_
  refine zA_push rfl rfl zkk18 ?_
  rcases zite_e H with ⟨_, H⟩ | ⟨ch181, H⟩
  · cases H
  obtain ⟨h181, e182, H⟩ := zlet_e H
  refine zA_newA rfl rfl (fun _ _ _ _ _ => rfl) ch181 e182 ?_
  obtain ⟨h183, e184, H⟩ := zlet_e H
  refine zA_pf3 rfl rfl e29 c30 e184 ?_
  refine zA_aldn rfl rfl rfl ?_
  refine zA_push rfl rfl zkk9 ?_
  rcases zite_e H with ⟨_, H⟩ | ⟨ch185, H⟩
  · cases H
  obtain ⟨h185, e186, H⟩ := zlet_e H
  refine zA_newA rfl rfl (fun _ _ _ _ _ => rfl) ch185 e186 ?_
  obtain ⟨h187, e188, H⟩ := zlet_e H
  refine zA_pf3 rfl rfl e29 c30 e188 ?_
  refine zA_aldn rfl rfl rfl ?_
  refine zA_push rfl rfl zkk0 ?_
  rcases zite_e H with ⟨_, H⟩ | ⟨ch189, H⟩
  · cases H
  obtain ⟨h189, e190, H⟩ := zlet_e H
  refine zA_newA rfl rfl (fun _ _ _ _ _ => rfl) ch189 e190 ?_
  obtain ⟨h191, e192, H⟩ := zlet_e H
  refine zA_pf3 rfl rfl e29 c30 e192 ?_
  refine zA_aldn rfl rfl rfl ?_
  refine zA_push rfl rfl zkk0 ?_
  rcases zite_e H with ⟨_, H⟩ | ⟨ch193, H⟩
  · cases H
  obtain ⟨h193, e194, H⟩ := zlet_e H
  refine zA_newA rfl rfl (fun _ _ _ _ _ => rfl) ch193 e194 ?_
  obtain ⟨h195, e196, H⟩ := zlet_e H
  refine zA_pf3 rfl rfl e29 c30 e196 ?_
  refine zA_aldn rfl rfl rfl ?_
  refine zA_push rfl rfl zkk0 ?_
  rcases zite_e H with ⟨_, H⟩ | ⟨ch197, H⟩
  · cases H
  obtain ⟨h197, e198, H⟩ := zlet_e H
  refine zA_newA rfl rfl (fun _ _ _ _ _ => rfl) ch197 e198 ?_
  obtain ⟨h199, e200, H⟩ := zlet_e H
  refine zA_pf3 rfl rfl e29 c30 e200 ?_
  refine zA_aldn rfl rfl rfl ?_
  refine zA_push rfl rfl zkk0 ?_
  rcases zite_e H with ⟨_, H⟩ | ⟨ch201, H⟩
  · cases H
  obtain ⟨h201, e202, H⟩ := zlet_e H
  refine zA_newA rfl rfl (fun _ _ _ _ _ => rfl) ch201 e202 ?_
  obtain ⟨h203, e204, H⟩ := zlet_e H
  refine zA_pf3 rfl rfl e29 c30 e204 ?_
  refine zA_aldn rfl rfl rfl ?_
  refine zA_push rfl rfl zkk19 ?_
  rcases zite_e H with ⟨_, H⟩ | ⟨ch205, H⟩
  · cases H
  obtain ⟨h205, e206, H⟩ := zlet_e H
  refine zA_newA rfl rfl (fun _ _ _ _ _ => rfl) ch205 e206 ?_
  obtain ⟨h207, e208, H⟩ := zlet_e H
  refine zA_pf3 rfl rfl e29 c30 e208 ?_
  refine zA_aldn rfl rfl rfl ?_
  refine zA_push rfl rfl zkk3 ?_
  rcases zite_e H with ⟨_, H⟩ | ⟨ch209, H⟩
  · cases H
  obtain ⟨h209, e210, H⟩ := zlet_e H
  refine zA_newA rfl rfl (fun _ _ _ _ _ => rfl) ch209 e210 ?_
  obtain ⟨h211, e212, H⟩ := zlet_e H
  refine zA_pf3 rfl rfl e29 c30 e212 ?_
  refine zA_aldn rfl rfl rfl ?_
  refine zA_push rfl rfl zkk14 ?_
  rcases zite_e H with ⟨_, H⟩ | ⟨ch213, H⟩
  · cases H
  obtain ⟨h213, e214, H⟩ := zlet_e H
  refine zA_newA rfl rfl (fun _ _ _ _ _ => rfl) ch213 e214 ?_
  obtain ⟨h215, e216, H⟩ := zlet_e H
  refine zA_pf3 rfl rfl e29 c30 e216 ?_
  refine zA_aldn rfl rfl rfl ?_
  refine zA_push rfl rfl zkk14 ?_
  rcases zite_e H with ⟨_, H⟩ | ⟨ch217, H⟩
  · cases H
  obtain ⟨h217, e218, H⟩ := zlet_e H
  refine zA_newA rfl rfl (fun _ _ _ _ _ => rfl) ch217 e218 ?_
  obtain ⟨h219, e220, H⟩ := zlet_e H
  refine zA_pf3 rfl rfl e29 c30 e220 ?_
  refine zA_aldn rfl rfl rfl ?_
  refine zA_push rfl rfl zkk0 ?_
  rcases zite_e H with ⟨_, H⟩ | ⟨ch221, H⟩
  · cases H
  obtain ⟨h221, e222, H⟩ := zlet_e H
  refine zA_newA rfl rfl (fun _ _ _ _ _ => rfl) ch221 e222 ?_
  obtain ⟨h223, e224, H⟩ := zlet_e H
  refine zA_pf3 rfl rfl e29 c30 e224 ?_
  refine zA_aldn rfl rfl rfl ?_
  refine zA_push rfl rfl zkk0 ?_
  rcases zite_e H with ⟨_, H⟩ | ⟨ch225, H⟩
  · cases H
  obtain ⟨h225, e226, H⟩ := zlet_e H
  refine zA_newA rfl rfl (fun _ _ _ _ _ => rfl) ch225 e226 ?_
  obtain ⟨h227, e228, H⟩ := zlet_e H
  refine zA_pf3 rfl rfl e29 c30 e228 ?_
  refine zA_aldn rfl rfl rfl ?_
  refine zA_push rfl rfl zkk0 ?_
  rcases zite_e H with ⟨_, H⟩ | ⟨ch229, H⟩
  · cases H
  obtain ⟨h229, e230, H⟩ := zlet_e H
  refine zA_newA rfl rfl (fun _ _ _ _ _ => rfl) ch229 e230 ?_
  obtain ⟨h231, e232, H⟩ := zlet_e H
  refine zA_pf3 rfl rfl e29 c30 e232 ?_
  refine zA_aldn rfl rfl rfl ?_
  refine zA_push rfl rfl zkk0 ?_
  rcases zite_e H with ⟨_, H⟩ | ⟨ch233, H⟩
  · cases H
  obtain ⟨h233, e234, H⟩ := zlet_e H
  refine zA_newA rfl rfl (fun _ _ _ _ _ => rfl) ch233 e234 ?_
  obtain ⟨h235, e236, H⟩ := zlet_e H
  refine zA_pf3 rfl rfl e29 c30 e236 ?_
  refine zA_aldn rfl rfl rfl ?_
  refine zA_push rfl rfl zkk0 ?_
  rcases zite_e H with ⟨_, H⟩ | ⟨ch237, H⟩
  · cases H
  obtain ⟨h237, e238, H⟩ := zlet_e H
  refine zA_newA rfl rfl (fun _ _ _ _ _ => rfl) ch237 e238 ?_
  obtain ⟨h239, e240, H⟩ := zlet_e H
  refine zA_pf3 rfl rfl e29 c30 e240 ?_
  refine zA_aldn rfl rfl rfl ?_
  refine zA_push rfl rfl zkk13 ?_
  rcases zite_e H with ⟨_, H⟩ | ⟨ch241, H⟩
  · cases H
  obtain ⟨h241, e242, H⟩ := zlet_e H
  refine zA_newA rfl rfl (fun _ _ _ _ _ => rfl) ch241 e242 ?_
  obtain ⟨h243, e244, H⟩ := zlet_e H
  refine zA_pf3 rfl rfl e29 c30 e244 ?_
  refine zA_aldn rfl rfl rfl ?_
  refine zA_push rfl rfl zkk13 ?_
  rcases zite_e H with ⟨_, H⟩ | ⟨ch245, H⟩
  · cases H
  obtain ⟨h245, e246, H⟩ := zlet_e H
  refine zA_newA rfl rfl (fun _ _ _ _ _ => rfl) ch245 e246 ?_
  obtain ⟨h247, e248, H⟩ := zlet_e H
  refine zA_pf3 rfl rfl e29 c30 e248 ?_
  refine zA_aldn rfl rfl rfl ?_
  refine zA_push rfl rfl zkk13 ?_
  rcases zite_e H with ⟨_, H⟩ | ⟨ch249, H⟩
  · cases H
  obtain ⟨h249, e250, H⟩ := zlet_e H
  refine zA_newA rfl rfl (fun _ _ _ _ _ => rfl) ch249 e250 ?_
  obtain ⟨h251, e252, H⟩ := zlet_e H
  refine zA_pf3 rfl rfl e29 c30 e252 ?_
  refine zA_aldn rfl rfl rfl ?_
  refine zA_push rfl rfl zkk13 ?_
  rcases zite_e H with ⟨_, H⟩ | ⟨ch253, H⟩
  · cases H
  obtain ⟨h253, e254, H⟩ := zlet_e H
  refine zA_newA rfl rfl (fun _ _ _ _ _ => rfl) ch253 e254 ?_
  obtain ⟨h255, e256, H⟩ := zlet_e H
  refine zA_pf3 rfl rfl e29 c30 e256 ?_
  refine zA_aldn rfl rfl rfl ?_
  refine zA_push rfl rfl zkk4 ?_
  rcases zite_e H with ⟨_, H⟩ | ⟨ch257, H⟩
  · cases H
  obtain ⟨h257, e258, H⟩ := zlet_e H
  refine zA_newA rfl rfl (fun _ _ _ _ _ => rfl) ch257 e258 ?_
  obtain ⟨h259, e260, H⟩ := zlet_e H
  refine zA_pf3 rfl rfl e29 c30 e260 ?_
  refine zA_aldn rfl rfl rfl ?_
  refine zA_push rfl rfl zkk0 ?_
  rcases zite_e H with ⟨_, H⟩ | ⟨ch261, H⟩
  · cases H
  obtain ⟨h261, e262, H⟩ := zlet_e H
  refine zA_newA rfl rfl (fun _ _ _ _ _ => rfl) ch261 e262 ?_
  obtain ⟨h263, e264, H⟩ := zlet_e H
  refine zA_pf3 rfl rfl e29 c30 e264 ?_
  refine zA_aldn rfl rfl rfl ?_
  refine zA_push rfl rfl zkk0 ?_
  rcases zite_e H with ⟨_, H⟩ | ⟨ch265, H⟩
  · cases H
  obtain ⟨h265, e266, H⟩ := zlet_e H
  refine zA_newA rfl rfl (fun _ _ _ _ _ => rfl) ch265 e266 ?_
  obtain ⟨h267, e268, H⟩ := zlet_e H
  refine zA_pf3 rfl rfl e29 c30 e268 ?_
  refine zA_aldn rfl rfl rfl ?_
  refine zA_push rfl rfl zkk0 ?_
  rcases zite_e H with ⟨_, H⟩ | ⟨ch269, H⟩
  · cases H
  obtain ⟨h269, e270, H⟩ := zlet_e H
  refine zA_newA rfl rfl (fun _ _ _ _ _ => rfl) ch269 e270 ?_
  obtain ⟨h271, e272, H⟩ := zlet_e H
  refine zA_pf3 rfl rfl e29 c30 e272 ?_
  refine zA_aldn rfl rfl rfl ?_
  refine zA_push rfl rfl zkk0 ?_
  rcases zite_e H with ⟨_, H⟩ | ⟨ch273, H⟩
  · cases H
  obtain ⟨h273, e274, H⟩ := zlet_e H
  refine zA_newA rfl rfl (fun _ _ _ _ _ => rfl) ch273 e274 ?_
  obtain ⟨h275, e276, H⟩ := zlet_e H
  refine zA_pf3 rfl rfl e29 c30 e276 ?_
  refine zA_aldn rfl rfl rfl ?_
  refine zA_push rfl rfl zkk0 ?_
  rcases zite_e H with ⟨_, H⟩ | ⟨ch277, H⟩
  · cases H
  obtain ⟨h277, e278, H⟩ := zlet_e H
  refine zA_newA rfl rfl (fun _ _ _ _ _ => rfl) ch277 e278 ?_
  obtain ⟨h279, e280, H⟩ := zlet_e H
  refine zA_pf3 rfl rfl e29 c30 e280 ?_
  refine zA_aldn rfl rfl rfl ?_
  refine zA_push rfl rfl zkk0 ?_
  rcases zite_e H with ⟨_, H⟩ | ⟨ch281, H⟩
  · cases H
  obtain ⟨h281, e282, H⟩ := zlet_e H
  refine zA_newA rfl rfl (fun _ _ _ _ _ => rfl) ch281 e282 ?_
  obtain ⟨h283, e284, H⟩ := zlet_e H
  refine zA_pf3 rfl rfl e29 c30 e284 ?_
  refine zA_push rfl rfl zkk7 ?_
  refine zA_istn2 rfl rfl rfl (zset1 (L' := [some (zrv x0), some (zI (0 : Int32))]) rfl rfl (zpcV rfl (zcat_rv _))) ?_
  exact zA_tr (L := [some (zrv x0), some (zI (0 : Int32))]) rfl rfl (zmS136_260 (zmS136_275) zN0 _ _ _ _ _ H)
theorem zmE136 (x0 : zq) : zpad (zPr.2.1 136).1 (zil [zrv x0]) = [some (zrv x0), none] := by
  simp only [zil_A, zil_I, zil_F, zil_D, zil_N]
  rfl
-- 131: ReleaseHouse.checkRange(III)V
def zm131 (x0 : Int32) (x1 : Int32) (x2 : Int32) (h : zH) : zRs Unit :=
  if x0 < x1 then
    some (.inr 0, zro h 1 6)
  else
    if x0 ≤ x2 then
      some (.inl (), h)
    else
      some (.inr 0, zro h 1 6)
theorem zmS131 {x0 : Int32} {x1 : Int32} {x2 : Int32} {h : zH} {r : Unit ⊕ Nat} {h' : zH} (H : zm131 x0 x1 x2 h = some (r, h')) : zAt 131 0 [some (zI x0), some (zI x1), some (zI x2)] [] h (zoU r) h' := by
  unfold zm131 at H
  refine zA_ldn rfl rfl rfl ?_
  refine zA_ldn rfl rfl rfl ?_
  rcases zite_e H with ⟨c21, H⟩ | ⟨c21, H⟩
  · refine zA_brT (c := x0 < x1) rfl rfl rfl c21 ?_
    refine zA_tr (L := [none, none, none]) rfl rfl ?_
    cases H
    exact zA_thr rfl rfl
  · refine zA_brF (c := x0 < x1) rfl rfl rfl c21 ?_
    refine zA_ldn rfl rfl rfl ?_
    refine zA_ldn rfl rfl rfl ?_
    rcases zite_e H with ⟨c22, H⟩ | ⟨c22, H⟩
    · refine zA_brT (c := x0 ≤ x2) rfl rfl rfl c22 ?_
      refine zA_tr (L := [none, none, none]) rfl rfl ?_
      cases H
      exact zA_ret rfl rfl
    · refine zA_brF (c := x0 ≤ x2) rfl rfl rfl c22 ?_
      refine zA_tr (L := [none, none, none]) rfl rfl ?_
      cases H
      exact zA_thr rfl rfl
theorem zmE131 (x0 : Int32) (x1 : Int32) (x2 : Int32) : zpad (zPr.2.1 131).1 (zil [zI x0, zI x1, zI x2]) = [some (zI x0), some (zI x1), some (zI x2)] := by
  simp only [zil_A, zil_I, zil_F, zil_D, zil_N]
  rfl
-- 41: ReleaseHouse.checkNeeded(III)V
def zm41 (x0 : Int32) (x1 : Int32) (x2 : Int32) (h : zH) : zRs Unit :=
  if x1 = 0 then
    zb (zm131 x2 (-1 : Int32) (-1 : Int32) h) fun _ h22 =>
    some (.inl (), h22)
  else
    zb (zm131 x2 (0 : Int32) (3 : Int32) h) fun _ h24 =>
    if x2 = x0 then
      some (.inr 0, zro h24 1 6)
    else
      some (.inl (), h24)
theorem zmS41 {x0 : Int32} {x1 : Int32} {x2 : Int32} {h : zH} {r : Unit ⊕ Nat} {h' : zH} (H : zm41 x0 x1 x2 h = some (r, h')) : zAt 41 0 [some (zI x0), some (zI x1), some (zI x2)] [] h (zoU r) h' := by
  unfold zm41 at H
  refine zA_ldn rfl rfl rfl ?_
  rcases zite_e H with ⟨c21, H⟩ | ⟨c21, H⟩
  · refine zA_brF' (c := x1 = 0) rfl rfl rfl c21 ?_
    refine zA_ldn rfl rfl rfl ?_
    refine zA_push rfl rfl zkk6 ?_
    refine zA_push rfl rfl zkk6 ?_
    rcases zb_e H with ⟨u23, h22, C, H⟩ | ⟨E, h22, C, H⟩
    · refine zA_callU (as := [zI x2, zI (-1 : Int32), zI (-1 : Int32)]) (st' := []) rfl rfl rfl rfl rfl (zmE131 _ _ _) rfl (zmS131 C) ?_
      cases H
      exact zA_ret rfl rfl
    · cases H
      exact zA_callX (as := [zI x2, zI (-1 : Int32), zI (-1 : Int32)]) (st' := []) rfl rfl rfl rfl (zmE131 _ _ _) rfl rfl rfl (zmS131 C)
  · refine zA_brT' (c := x1 = 0) rfl rfl rfl c21 ?_
    refine zA_tr (L := [some (zI x0), none, some (zI x2)]) rfl rfl ?_
    refine zA_ldn rfl rfl rfl ?_
    refine zA_push rfl rfl zkk7 ?_
    refine zA_push rfl rfl zkk3 ?_
    rcases zb_e H with ⟨u26, h24, C, H⟩ | ⟨E, h24, C, H⟩
    · refine zA_callU (as := [zI x2, zI (0 : Int32), zI (3 : Int32)]) (st' := []) rfl rfl rfl rfl rfl (zmE131 _ _ _) rfl (zmS131 C) ?_
      refine zA_ldn rfl rfl rfl ?_
      refine zA_ldn rfl rfl rfl ?_
      rcases zite_e H with ⟨c25, H⟩ | ⟨c25, H⟩
      · refine zA_brF' (c := x2 = x0) rfl rfl rfl c25 ?_
        cases H
        exact zA_thr rfl rfl
      · refine zA_brT' (c := x2 = x0) rfl rfl rfl c25 ?_
        refine zA_tr (L := [none, none, none]) rfl rfl ?_
        cases H
        exact zA_ret rfl rfl
    · cases H
      exact zA_callX (as := [zI x2, zI (0 : Int32), zI (3 : Int32)]) (st' := []) rfl rfl rfl rfl (zmE131 _ _ _) rfl rfl rfl (zmS131 C)
theorem zmE41 (x0 : Int32) (x1 : Int32) (x2 : Int32) : zpad (zPr.2.1 41).1 (zil [zI x0, zI x1, zI x2]) = [some (zI x0), some (zI x1), some (zI x2)] := by
  simp only [zil_A, zil_I, zil_F, zil_D, zil_N]
  rfl
-- 133: ReleaseHouse.isIn(II)Z
def zm133 (x0 : Int32) (x1 : Int32) (h : zH) : zRs Int32 :=
  if (x0 &&& ((1 : Int32) <<< (x1 &&& 31))) = 0 then
    some (.inl (0 : Int32), h)
  else
    some (.inl (1 : Int32), h)
theorem zmS133 {x0 : Int32} {x1 : Int32} {h : zH} {r : Int32 ⊕ Nat} {h' : zH} (H : zm133 x0 x1 h = some (r, h')) : zAt 133 0 [some (zI x0), some (zI x1)] [] h (zoI r) h' := by
  unfold zm133 at H
  refine zA_ldn rfl rfl rfl ?_
  refine zA_push rfl rfl zkk5 ?_
  refine zA_ldn rfl rfl rfl ?_
  refine zA_st (st' := [zI ((1 : Int32) <<< (x1 &&& 31)), zI x0]) rfl rfl rfl rfl ?_
  refine zA_st (st' := [zI (x0 &&& ((1 : Int32) <<< (x1 &&& 31)))]) rfl rfl rfl rfl ?_
  rcases zite_e H with ⟨c21, H⟩ | ⟨c21, H⟩
  · refine zA_brT (c := (x0 &&& ((1 : Int32) <<< (x1 &&& 31))) = 0) rfl rfl rfl c21 ?_
    refine zA_tr (L := [none, none]) rfl rfl ?_
    refine zA_push rfl rfl zkk7 ?_
    cases H
    exact zA_ret rfl (zret_Z (by decide))
  · refine zA_brF (c := (x0 &&& ((1 : Int32) <<< (x1 &&& 31))) = 0) rfl rfl rfl c21 ?_
    refine zA_push rfl rfl zkk5 ?_
    refine zA_go rfl rfl ?_
    refine zA_tr (L := [none, none]) rfl rfl ?_
    cases H
    exact zA_ret rfl (zret_Z (by decide))
theorem zmE133 (x0 : Int32) (x1 : Int32) : zpad (zPr.2.1 133).1 (zil [zI x0, zI x1]) = [some (zI x0), some (zI x1)] := by
  simp only [zil_A, zil_I, zil_F, zil_D, zil_N]
  rfl
-- 0: ReleaseHouse$Artefact.<init>(III)V
def zm0 (x0 : zq) (x1 : Int32) (x2 : Int32) (x3 : Int32) (h : zH) : zRs Unit :=
  znn x0 fun p21 i22 =>
  if (3 : Int32) < 0 ∨ 100000 < (3 : Int32).toNatClampNeg then none else
  zlet (znw h 21 (3 : Int32).toNatClampNeg (3 : Int32).toNatClampNeg) fun h25 =>
  zob 0 x0 fun p27 i28 =>
  zlet (zsr h25 p27 i28 11 (some (21, zct h 21))) fun h31 =>
  zlet (zsi h31 p27 i28 0 x1) fun h33 =>
  zlet (zsi h33 p27 i28 1 x2) fun h35 =>
  zlet (zsi h35 p27 i28 2 x3) fun h37 =>
  some (.inl (), h37)
theorem zmS0 {x0 : zq} {x1 : Int32} {x2 : Int32} {x3 : Int32} {h : zH} {r : Unit ⊕ Nat} {h' : zH} (H : zm0 x0 x1 x2 x3 h = some (r, h')) : zAt 0 0 [some (zrv x0), some (zI x1), some (zI x2), some (zI x3)] [] h (zoU r) h' := by
  unfold zm0 at H
  refine zA_aldn rfl rfl rfl ?_
  obtain ⟨p21, i22, e23, H⟩ := znn_e H
  refine zA_l0 rfl rfl rfl e23 ?_
  refine zA_aldn rfl rfl rfl ?_
  refine zA_push rfl rfl zkk3 ?_
  rcases zite_e H with ⟨_, H⟩ | ⟨ch25, H⟩
  · cases H
  obtain ⟨h25, e26, H⟩ := zlet_e H
  refine zA_newA rfl rfl (fun _ _ _ _ _ => rfl) ch25 e26 ?_
  obtain ⟨p27, i28, e29, c30, H⟩ := zob_e H
  obtain ⟨h31, e32, H⟩ := zlet_e H
  refine zA_pf3 rfl rfl e29 c30 e32 ?_
  refine zA_aldn rfl rfl rfl ?_
  refine zA_ldn rfl rfl rfl ?_
  obtain ⟨h33, e34, H⟩ := zlet_e H
  refine zA_pf0 rfl rfl e29 c30 e34 ?_
  refine zA_aldn rfl rfl rfl ?_
  refine zA_ldn rfl rfl rfl ?_
  obtain ⟨h35, e36, H⟩ := zlet_e H
  refine zA_pf0 rfl rfl e29 c30 e36 ?_
  refine zA_aldn rfl rfl rfl ?_
  refine zA_ldn rfl rfl rfl ?_
  obtain ⟨h37, e38, H⟩ := zlet_e H
  refine zA_pf0 rfl rfl e29 c30 e38 ?_
  cases H
  exact zA_ret rfl rfl
theorem zmE0 (x0 : zq) (x1 : Int32) (x2 : Int32) (x3 : Int32) : zpad (zPr.2.1 0).1 (zil [zrv x0, zI x1, zI x2, zI x3]) = [some (zrv x0), some (zI x1), some (zI x2), some (zI x3)] := by
  simp only [zil_A, zil_I, zil_F, zil_D, zil_N]
  rfl
-- 40: ReleaseHouse.artefact(IIIIIIIZZ)I
def zm40 (x0 : zq) (x1 : Int32) (x2 : Int32) (x3 : Int32) (x4 : Int32) (x5 : Int32) (x6 : Int32) (x7 : Int32) (x8 : Int32) (x9 : Int32) (h : zH) : zRs Int32 :=
  zb (zm131 x1 (0 : Int32) (3 : Int32) h) fun _ h21 =>
  zb (zm131 x2 (0 : Int32) (5 : Int32) h21) fun _ h22 =>
  zb (zm131 x3 (0 : Int32) (255 : Int32) h22) fun _ h23 =>
  zb (zm131 x4 (0 : Int32) (255 : Int32) h23) fun _ h24 =>
  zb (zm41 x1 x4 x5 h24) fun _ h25 =>
  zb (zm131 x6 (1 : Int32) (255 : Int32) h25) fun _ h26 =>
  zb (zm131 x7 (0 : Int32) (7 : Int32) h26) fun _ h27 =>
  zb (zm133 x6 x7 h27) fun x29 h28 =>
  if x29 = 0 then
    some (.inr 0, zro h28 1 6)
  else
    zob 11 x0 fun p31 i32 =>
    zlz (zr h28 p31 i32 0) h28 fun v40 =>
    if v40 < (30 : Int32) then
      zlet (znw h28 0 0 12) fun h43 =>
      zlz (zr h43 p31 i32 0) h43 fun v50 =>
      zob 0 (some (0, zct h28 0)) fun p52 i53 =>
      zb2 (zm0 (some (0, zct h28 0)) v50 x1 x2 h43) fun _ h56 =>
      zlet (some (0, zct h28 0)) fun x57 =>
      zob 0 x57 fun p59 i60 =>
      zlet (zsi h56 p59 i60 3 x3) fun h63 =>
      zlet (zsi h63 p59 i60 4 x4) fun h65 =>
      zlet (zsi h65 p59 i60 5 x5) fun h67 =>
      zlet (zsi h67 p59 i60 6 x6) fun h69 =>
      zlet (zsi h69 p59 i60 7 x7) fun h71 =>
      zif (x8 = 0 ∨ x8 = 1) <|
      zlet (zsi h71 p59 i60 8 x8) fun h73 =>
      zif (x9 = 0 ∨ x9 = 1) <|
      zlet (zsi h73 p59 i60 9 x9) fun h76 =>
      znn (zr h76 p31 i32 0) fun p79 i80 =>
      znn x57 fun p86 i87 =>
      zif ((ztg p79 == 9 && ztg p86 == 0 && (zkc p86 == zel p79 && zelB h76 p79 i80)) = true) <|
      zif (zi h76 p79 i80 1 = 1 ∧ zln h76 p79 i80 < 33) <|
      zlet (zladd h76 p79 i80 p86 i87) fun h84 =>
      some (.inl (zi h84 p59 i60 0), h84)
    else
      some (.inr 1, zro h28 1 6)
theorem zmS40 {x0 : zq} {x1 : Int32} {x2 : Int32} {x3 : Int32} {x4 : Int32} {x5 : Int32} {x6 : Int32} {x7 : Int32} {x8 : Int32} {x9 : Int32} {h : zH} {r : Int32 ⊕ Nat} {h' : zH} (H : zm40 x0 x1 x2 x3 x4 x5 x6 x7 x8 x9 h = some (r, h')) : zAt 40 0 [some (zrv x0), some (zI x1), some (zI x2), some (zI x3), some (zI x4), some (zI x5), some (zI x6), some (zI x7), some (zI x8), some (zI x9), none] [] h (zoI r) h' := by
  unfold zm40 at H
  refine zA_ldn rfl rfl rfl ?_
  refine zA_push rfl rfl zkk7 ?_
  refine zA_push rfl rfl zkk3 ?_
  rcases zb_e H with ⟨u96, h21, C, H⟩ | ⟨E, h21, C, H⟩
  · refine zA_callU (as := [zI x1, zI (0 : Int32), zI (3 : Int32)]) (st' := []) rfl rfl rfl rfl rfl (zmE131 _ _ _) rfl (zmS131 C) ?_
    refine zA_ldn rfl rfl rfl ?_
    refine zA_push rfl rfl zkk7 ?_
    refine zA_push rfl rfl zkk20 ?_
    rcases zb_e H with ⟨u95, h22, C, H⟩ | ⟨E, h22, C, H⟩
    · refine zA_callU (as := [zI x2, zI (0 : Int32), zI (5 : Int32)]) (st' := []) rfl rfl rfl rfl rfl (zmE131 _ _ _) rfl (zmS131 C) ?_
      refine zA_ldn rfl rfl rfl ?_
      refine zA_push rfl rfl zkk7 ?_
      refine zA_push rfl rfl zkk21 ?_
      rcases zb_e H with ⟨u94, h23, C, H⟩ | ⟨E, h23, C, H⟩
      · refine zA_callU (as := [zI x3, zI (0 : Int32), zI (255 : Int32)]) (st' := []) rfl rfl rfl rfl rfl (zmE131 _ _ _) rfl (zmS131 C) ?_
        refine zA_ld rfl rfl rfl ?_
        refine zA_push rfl rfl zkk7 ?_
        refine zA_push rfl rfl zkk21 ?_
        rcases zb_e H with ⟨u93, h24, C, H⟩ | ⟨E, h24, C, H⟩
        · refine zA_callU (as := [zI x4, zI (0 : Int32), zI (255 : Int32)]) (st' := []) rfl rfl rfl rfl rfl (zmE131 _ _ _) rfl (zmS131 C) ?_
          refine zA_ldn rfl rfl rfl ?_
          refine zA_ld rfl rfl rfl ?_
          refine zA_ld rfl rfl rfl ?_
          rcases zb_e H with ⟨u92, h25, C, H⟩ | ⟨E, h25, C, H⟩
          · refine zA_callU (as := [zI x1, zI x4, zI x5]) (st' := []) rfl rfl rfl rfl rfl (zmE41 _ _ _) rfl (zmS41 C) ?_
            refine zA_ld rfl rfl rfl ?_
            refine zA_push rfl rfl zkk5 ?_
            refine zA_push rfl rfl zkk21 ?_
            rcases zb_e H with ⟨u91, h26, C, H⟩ | ⟨E, h26, C, H⟩
            · refine zA_callU (as := [zI x6, zI (1 : Int32), zI (255 : Int32)]) (st' := []) rfl rfl rfl rfl rfl (zmE131 _ _ _) rfl (zmS131 C) ?_
              refine zA_ld rfl rfl rfl ?_
              refine zA_push rfl rfl zkk7 ?_
              refine zA_push rfl rfl zkk22 ?_
              rcases zb_e H with ⟨u90, h27, C, H⟩ | ⟨E, h27, C, H⟩
              · refine zA_callU (as := [zI x7, zI (0 : Int32), zI (7 : Int32)]) (st' := []) rfl rfl rfl rfl rfl (zmE131 _ _ _) rfl (zmS131 C) ?_
                refine zA_ld rfl rfl rfl ?_
                refine zA_ld rfl rfl rfl ?_
                rcases zb_e H with ⟨x29, h28, C, H⟩ | ⟨E, h28, C, H⟩
                · refine zA_callV (as := [zI x6, zI x7]) (st' := []) rfl rfl rfl rfl rfl (zmE133 _ _) rfl (zmS133 C) ?_
                  rcases zite_e H with ⟨c30, H⟩ | ⟨c30, H⟩
                  · refine zA_brF' (c := x29 = 0) rfl rfl rfl c30 ?_
                    cases H
                    exact zA_thr rfl rfl
                  · refine zA_brT' (c := x29 = 0) rfl rfl rfl c30 ?_
                    refine zA_aldn rfl rfl rfl ?_
                    obtain ⟨p31, i32, e33, c34, H⟩ := zob_e H
                    refine zA_gf3 rfl rfl e33 c34 ?_
                    obtain ⟨p35, i36, v40, e37, c38, c39, e41, H⟩ := zlz_e H
                    refine zA_l2 rfl rfl rfl e37 c38 c39 e41 ?_
                    refine zA_push rfl rfl zkk10 ?_
                    rcases zite_e H with ⟨c42, H⟩ | ⟨c42, H⟩
                    · refine zA_brT (c := v40 < (30 : Int32)) rfl rfl rfl c42 ?_
                      obtain ⟨h43, e44, H⟩ := zlet_e H
                      refine zA_new (n := 12) rfl rfl (fun _ _ _ _ => rfl) e44 ?_
                      refine zA_dup rfl rfl (zcat_rv _) ?_
                      refine zA_aldn rfl rfl rfl ?_
                      refine zA_gf3 rfl rfl e33 c34 ?_
                      obtain ⟨p45, i46, v50, e47, c48, c49, e51, H⟩ := zlz_e H
                      refine zA_l2 rfl rfl rfl e47 c48 c49 e51 ?_
                      refine zA_ldn rfl rfl rfl ?_
                      refine zA_ldn rfl rfl rfl ?_
                      obtain ⟨p52, i53, e54, c55, H⟩ := zob_e H
                      obtain ⟨u89, h56, C, H⟩ := zb2_e H
                      refine zA_callU (as := [zrv (some (0, zct h28 0)), zI v50, zI x1, zI x2]) (st' := [zrv (some (0, zct h28 0))]) rfl rfl rfl (zrcv_Q e54 c55) rfl (zmE0 _ _ _ _) rfl (zmS0 C) ?_
                      obtain ⟨x57, e58, H⟩ := zlet_e H
                      refine zA_ast2 rfl rfl e58 (zset1 (L' := [some (zrv x0), some (zI x1), some (zI x2), some (zI x3), some (zI x4), some (zI x5), some (zI x6), some (zI x7), some (zI x8), some (zI x9), some (zrv x57)]) (zcat_rv _) rfl (zpcV rfl rfl)) ?_
                      refine zA_ald rfl rfl rfl ?_
                      refine zA_ldn rfl rfl rfl ?_
                      obtain ⟨p59, i60, e61, c62, H⟩ := zob_e H
                      obtain ⟨h63, e64, H⟩ := zlet_e H
                      refine zA_pf0 rfl rfl e61 c62 e64 ?_
                      refine zA_ald rfl rfl rfl ?_
                      refine zA_ld rfl rfl rfl ?_
                      obtain ⟨h65, e66, H⟩ := zlet_e H
                      refine zA_pf0 rfl rfl e61 c62 e66 ?_
                      refine zA_ald rfl rfl rfl ?_
                      refine zA_ld rfl rfl rfl ?_
                      obtain ⟨h67, e68, H⟩ := zlet_e H
                      refine zA_pf0 rfl rfl e61 c62 e68 ?_
                      refine zA_ald rfl rfl rfl ?_
                      refine zA_ld rfl rfl rfl ?_
                      obtain ⟨h69, e70, H⟩ := zlet_e H
                      refine zA_pf0 rfl rfl e61 c62 e70 ?_
                      refine zA_ald rfl rfl rfl ?_
                      refine zA_ld rfl rfl rfl ?_
                      obtain ⟨h71, e72, H⟩ := zlet_e H
                      refine zA_pf0 rfl rfl e61 c62 e72 ?_
                      refine zA_ald rfl rfl rfl ?_
                      refine zA_ld rfl rfl rfl ?_
                      obtain ⟨c75, H⟩ := zif_e H
                      obtain ⟨h73, e74, H⟩ := zlet_e H
                      refine zA_pf1 rfl rfl e61 c62 c75 e74 ?_
                      refine zA_ald rfl rfl rfl ?_
                      refine zA_ld rfl rfl rfl ?_
                      obtain ⟨c78, H⟩ := zif_e H
                      obtain ⟨h76, e77, H⟩ := zlet_e H
                      refine zA_pf1 rfl rfl e61 c62 c78 e77 ?_
                      refine zA_aldn rfl rfl rfl ?_
                      refine zA_gf3 rfl rfl e33 c34 ?_
                      refine zA_ald rfl rfl rfl ?_
                      obtain ⟨p79, i80, e81, H⟩ := znn_e H
                      obtain ⟨p86, i87, e88, H⟩ := znn_e H
                      obtain ⟨c82, H⟩ := zif_e H
                      obtain ⟨c83, H⟩ := zif_e H
                      obtain ⟨h84, e85, H⟩ := zlet_e H
                      refine zA_l4 rfl rfl rfl e81 e88 c82 c83 e85 ?_
                      refine zA_pop rfl rfl rfl ?_
                      refine zA_ald rfl rfl rfl ?_
                      refine zA_gf0 rfl rfl (Or.inl rfl) e61 c62 ?_
                      cases H
                      exact zA_ret rfl rfl
                    · refine zA_brF (c := v40 < (30 : Int32)) rfl rfl rfl c42 ?_
                      cases H
                      exact zA_thr rfl rfl
                · cases H
                  exact zA_callX (as := [zI x6, zI x7]) (st' := []) rfl rfl rfl rfl (zmE133 _ _) rfl rfl rfl (zmS133 C)
              · cases H
                exact zA_callX (as := [zI x7, zI (0 : Int32), zI (7 : Int32)]) (st' := []) rfl rfl rfl rfl (zmE131 _ _ _) rfl rfl rfl (zmS131 C)
            · cases H
              exact zA_callX (as := [zI x6, zI (1 : Int32), zI (255 : Int32)]) (st' := []) rfl rfl rfl rfl (zmE131 _ _ _) rfl rfl rfl (zmS131 C)
          · cases H
            exact zA_callX (as := [zI x1, zI x4, zI x5]) (st' := []) rfl rfl rfl rfl (zmE41 _ _ _) rfl rfl rfl (zmS41 C)
        · cases H
          exact zA_callX (as := [zI x4, zI (0 : Int32), zI (255 : Int32)]) (st' := []) rfl rfl rfl rfl (zmE131 _ _ _) rfl rfl rfl (zmS131 C)
      · cases H
        exact zA_callX (as := [zI x3, zI (0 : Int32), zI (255 : Int32)]) (st' := []) rfl rfl rfl rfl (zmE131 _ _ _) rfl rfl rfl (zmS131 C)
    · cases H
      exact zA_callX (as := [zI x2, zI (0 : Int32), zI (5 : Int32)]) (st' := []) rfl rfl rfl rfl (zmE131 _ _ _) rfl rfl rfl (zmS131 C)
  · cases H
    exact zA_callX (as := [zI x1, zI (0 : Int32), zI (3 : Int32)]) (st' := []) rfl rfl rfl rfl (zmE131 _ _ _) rfl rfl rfl (zmS131 C)
theorem zmE40 (x0 : zq) (x1 : Int32) (x2 : Int32) (x3 : Int32) (x4 : Int32) (x5 : Int32) (x6 : Int32) (x7 : Int32) (x8 : Int32) (x9 : Int32) : zpad (zPr.2.1 40).1 (zil [zrv x0, zI x1, zI x2, zI x3, zI x4, zI x5, zI x6, zI x7, zI x8, zI x9]) = [some (zrv x0), some (zI x1), some (zI x2), some (zI x3), some (zI x4), some (zI x5), some (zI x6), some (zI x7), some (zI x8), some (zI x9), none] := by
  simp only [zil_A, zil_I, zil_F, zil_D, zil_N]
  rfl
-- 241: ReleaseHouseLaw.artefact(LReleaseHouse;IIIIIIIZZ[J)I
def zm241 (x0 : zq) (x1 : Int32) (x2 : Int32) (x3 : Int32) (x4 : Int32) (x5 : Int32) (x6 : Int32) (x7 : Int32) (x8 : Int32) (x9 : Int32) (x10 : zq) (h : zH) : zRs Int32 :=
  zob 11 x0 fun p21 i22 =>
  zbH [(0, 15, 0, 1), (0, 15, 1, 2)] 12 (zm40 x0 x1 x2 x3 x4 x5 x6 x7 x8 x9 h) fun x26 h25 =>
  zar 3 x10 (0 : Int32) h25 fun p27 i28 j29 =>
  zlet (zsl h25 p27 i28 j29 (x26.toInt64)) fun h34 =>
  some (.inl (0 : Int32), h34)
theorem zmS241 {x0 : zq} {x1 : Int32} {x2 : Int32} {x3 : Int32} {x4 : Int32} {x5 : Int32} {x6 : Int32} {x7 : Int32} {x8 : Int32} {x9 : Int32} {x10 : zq} {h : zH} {r : Int32 ⊕ Nat} {h' : zH} (H : zm241 x0 x1 x2 x3 x4 x5 x6 x7 x8 x9 x10 h = some (r, h')) : zAt 241 0 [some (zrv x0), some (zI x1), some (zI x2), some (zI x3), some (zI x4), some (zI x5), some (zI x6), some (zI x7), some (zI x8), some (zI x9), some (zrv x10), none] [] h (zoI r) h' := by
  unfold zm241 at H
  refine zA_ald rfl rfl rfl ?_
  refine zA_push rfl rfl zkk7 ?_
  refine zA_aldn rfl rfl rfl ?_
  refine zA_ldn rfl rfl rfl ?_
  refine zA_ldn rfl rfl rfl ?_
  refine zA_ldn rfl rfl rfl ?_
  refine zA_ld rfl rfl rfl ?_
  refine zA_ld rfl rfl rfl ?_
  refine zA_ld rfl rfl rfl ?_
  refine zA_ld rfl rfl rfl ?_
  refine zA_ld rfl rfl rfl ?_
  refine zA_ld rfl rfl rfl ?_
  obtain ⟨p21, i22, e23, c24, H⟩ := zob_e H
  rcases zbH_e H with ⟨x26, h25, C, H⟩ | ⟨E, h25, c36, C, hc, H⟩
  · refine zA_callV (as := [zrv x0, zI x1, zI x2, zI x3, zI x4, zI x5, zI x6, zI x7, zI x8, zI x9]) (st' := [zI (0 : Int32), zrv x10]) rfl rfl rfl (zrcv_Q e23 c24) rfl (zmE40 _ _ _ _ _ _ _ _ _ _) rfl (zmS40 C) ?_
    refine zA_st (st' := [zJ (x26.toInt64), zI (0 : Int32), zrv x10]) rfl rfl rfl rfl ?_
    obtain ⟨p27, i28, j29, e30, c31, c32, e33, H⟩ := zar_e H
    obtain ⟨h34, e35, H⟩ := zlet_e H
    refine zA_las rfl rfl e30 c31 c32 e33 e35 ?_
    refine zA_go rfl rfl ?_
    refine zA_tr (L := [none, none, none, none, none, none, none, none, none, none, none, none]) rfl rfl ?_
    refine zA_push rfl rfl zkk7 ?_
    cases H
    exact zA_ret rfl rfl
  · cases H
    exact zA_callH (as := [zrv x0, zI x1, zI x2, zI x3, zI x4, zI x5, zI x6, zI x7, zI x8, zI x9]) (st' := [zI (0 : Int32), zrv x10]) rfl rfl (zrcv_Q e23 c24) rfl (zmE40 _ _ _ _ _ _ _ _ _ _) rfl rfl rfl (List.cons_ne_nil _ _) hc (zmS40 C)
theorem zmE241 (x0 : zq) (x1 : Int32) (x2 : Int32) (x3 : Int32) (x4 : Int32) (x5 : Int32) (x6 : Int32) (x7 : Int32) (x8 : Int32) (x9 : Int32) (x10 : zq) : zpad (zPr.2.1 241).1 (zil [zrv x0, zI x1, zI x2, zI x3, zI x4, zI x5, zI x6, zI x7, zI x8, zI x9, zrv x10]) = [some (zrv x0), some (zI x1), some (zI x2), some (zI x3), some (zI x4), some (zI x5), some (zI x6), some (zI x7), some (zI x8), some (zI x9), some (zrv x10), none] := by
  simp only [zil_A, zil_I, zil_F, zil_D, zil_N]
  rfl
-- 139: ReleaseHouseModel.in(III)Z
def zm139 (x0 : Int32) (x1 : Int32) (x2 : Int32) (h : zH) : zRs Int32 :=
  if x0 < x1 then
    some (.inl (0 : Int32), h)
  else
    if x2 < x0 then
      some (.inl (0 : Int32), h)
    else
      some (.inl (1 : Int32), h)
theorem zmS139 {x0 : Int32} {x1 : Int32} {x2 : Int32} {h : zH} {r : Int32 ⊕ Nat} {h' : zH} (H : zm139 x0 x1 x2 h = some (r, h')) : zAt 139 0 [some (zI x0), some (zI x1), some (zI x2)] [] h (zoI r) h' := by
  unfold zm139 at H
  refine zA_ldn rfl rfl rfl ?_
  refine zA_ldn rfl rfl rfl ?_
  rcases zite_e H with ⟨c21, H⟩ | ⟨c21, H⟩
  · refine zA_brT (c := x0 < x1) rfl rfl rfl c21 ?_
    refine zA_tr (L := [none, none, none]) rfl rfl ?_
    refine zA_push rfl rfl zkk7 ?_
    cases H
    exact zA_ret rfl (zret_Z (by decide))
  · refine zA_brF (c := x0 < x1) rfl rfl rfl c21 ?_
    refine zA_ldn rfl rfl rfl ?_
    refine zA_ldn rfl rfl rfl ?_
    rcases zite_e H with ⟨c22, H⟩ | ⟨c22, H⟩
    · refine zA_brT (c := x2 < x0) rfl rfl rfl c22 ?_
      refine zA_tr (L := [none, none, none]) rfl rfl ?_
      refine zA_push rfl rfl zkk7 ?_
      cases H
      exact zA_ret rfl (zret_Z (by decide))
    · refine zA_brF (c := x2 < x0) rfl rfl rfl c22 ?_
      refine zA_push rfl rfl zkk5 ?_
      refine zA_go rfl rfl ?_
      refine zA_tr (L := [none, none, none]) rfl rfl ?_
      cases H
      exact zA_ret rfl (zret_Z (by decide))
theorem zmE139 (x0 : Int32) (x1 : Int32) (x2 : Int32) : zpad (zPr.2.1 139).1 (zil [zI x0, zI x1, zI x2]) = [some (zI x0), some (zI x1), some (zI x2)] := by
  simp only [zil_A, zil_I, zil_F, zil_D, zil_N]
  rfl
-- 140: ReleaseHouseModel.isService(I)Z
def zm140 (x0 : Int32) (h : zH) : zRs Int32 :=
  zb (zm139 x0 (0 : Int32) (3 : Int32) h) fun x22 h21 =>
  zif (x22 = 0 ∨ x22 = 1) <|
  some (.inl x22, h21)
theorem zmS140 {x0 : Int32} {h : zH} {r : Int32 ⊕ Nat} {h' : zH} (H : zm140 x0 h = some (r, h')) : zAt 140 0 [some (zI x0)] [] h (zoI r) h' := by
  unfold zm140 at H
  refine zA_ldn rfl rfl rfl ?_
  refine zA_push rfl rfl zkk7 ?_
  refine zA_push rfl rfl zkk3 ?_
  rcases zb_e H with ⟨x22, h21, C, H⟩ | ⟨E, h21, C, H⟩
  · refine zA_callV (as := [zI x0, zI (0 : Int32), zI (3 : Int32)]) (st' := []) rfl rfl rfl rfl rfl (zmE139 _ _ _) rfl (zmS139 C) ?_
    obtain ⟨c23, H⟩ := zif_e H
    cases H
    exact zA_ret rfl (zret_Z c23)
  · cases H
    exact zA_callX (as := [zI x0, zI (0 : Int32), zI (3 : Int32)]) (st' := []) rfl rfl rfl rfl (zmE139 _ _ _) rfl rfl rfl (zmS139 C)
theorem zmE140 (x0 : Int32) : zpad (zPr.2.1 140).1 (zil [zI x0]) = [some (zI x0)] := by
  simp only [zil_A, zil_I, zil_F, zil_D, zil_N]
  rfl
def zm145_69 (x0 : zq) (x1 : Int32) (x2 : Int32) (x3 : Int32) (x4 : Int32) (x5 : Int32) (x6 : Int32) (x7 : Int32) (x8 : Int32) (x9 : Int32) (s0 : zq) (s1 : Int32) (h : zH) : zRs Int32 :=
  zob 12 s0 fun p21 i22 =>
  zlet (zsi h p21 i22 0 s1) fun h25 =>
  zob 12 x0 fun p27 i28 =>
  if (zi h25 p27 i28 0) ≤ 0 then
    zar 1 (zr h25 p27 i28 3) (zi h25 p27 i28 2) h25 fun p32 i33 j34 =>
    zlet (zsi h25 p32 i33 j34 x1) fun h39 =>
    zar 1 (zr h39 p27 i28 4) (zi h39 p27 i28 2) h39 fun p41 i42 j43 =>
    zlet (zsi h39 p41 i42 j43 x2) fun h48 =>
    zar 1 (zr h48 p27 i28 5) (zi h48 p27 i28 2) h48 fun p50 i51 j52 =>
    zlet (zsi h48 p50 i51 j52 x3) fun h57 =>
    zar 1 (zr h57 p27 i28 6) (zi h57 p27 i28 2) h57 fun p59 i60 j61 =>
    zlet (zsi h57 p59 i60 j61 x4) fun h66 =>
    zar 1 (zr h66 p27 i28 7) (zi h66 p27 i28 2) h66 fun p68 i69 j70 =>
    zlet (zsi h66 p68 i69 j70 x5) fun h75 =>
    zar 1 (zr h75 p27 i28 8) (zi h75 p27 i28 2) h75 fun p77 i78 j79 =>
    zlet (zsi h75 p77 i78 j79 x6) fun h84 =>
    zar 1 (zr h84 p27 i28 9) (zi h84 p27 i28 2) h84 fun p86 i87 j88 =>
    zlet (zsi h84 p86 i87 j88 x7) fun h93 =>
    zar 2 (zr h93 p27 i28 10) (zi h93 p27 i28 2) h93 fun p95 i96 j97 =>
    zif (x8 = 0 ∨ x8 = 1) <|
    zlet (zsi h93 p95 i96 j97 x8) fun h102 =>
    zar 2 (zr h102 p27 i28 11) (zi h102 p27 i28 2) h102 fun p105 i106 j107 =>
    zif (x9 = 0 ∨ x9 = 1) <|
    zlet (zsi h102 p105 i106 j107 x9) fun h112 =>
    zlet (zsi h112 p27 i28 2 ((zi h112 p27 i28 2) + (1 : Int32))) fun h115 =>
    some (.inl ((zi h115 p27 i28 2) - (1 : Int32)), h115)
  else
    some (.inl (0 : Int32), h25)
theorem zmS145_69 : ∀ (x0 : zq) (x1 : Int32) (x2 : Int32) (x3 : Int32) (x4 : Int32) (x5 : Int32) (x6 : Int32) (x7 : Int32) (x8 : Int32) (x9 : Int32) (s0 : zq) (s1 : Int32) (h : zH) (r : Int32 ⊕ Nat) (h' : zH), zm145_69 x0 x1 x2 x3 x4 x5 x6 x7 x8 x9 s0 s1 h = some (r, h') → zAt 145 69 [some (zrv x0), some (zI x1), some (zI x2), some (zI x3), some (zI x4), some (zI x5), some (zI x6), some (zI x7), some (zI x8), some (zI x9), none] [zI s1, zrv s0] h (zoI r) h' := by
  intro x0 x1 x2 x3 x4 x5 x6 x7 x8 x9 s0 s1 h r h' H
  unfold zm145_69 at H
  obtain ⟨p21, i22, e23, c24, H⟩ := zob_e H
  obtain ⟨h25, e26, H⟩ := zlet_e H
  refine zA_pf0 rfl rfl e23 c24 e26 ?_
  refine zA_aldn rfl rfl rfl ?_
  obtain ⟨p27, i28, e29, c30, H⟩ := zob_e H
  refine zA_gf0 rfl rfl (Or.inl rfl) e29 c30 ?_
  rcases zite_e H with ⟨c31, H⟩ | ⟨c31, H⟩
  · refine zA_brT (c := (zi h25 p27 i28 0) ≤ 0) rfl rfl rfl c31 ?_
    refine zA_aldn rfl rfl rfl ?_
    refine zA_gf3 rfl rfl e29 c30 ?_
    refine zA_aldn rfl rfl rfl ?_
    refine zA_gf0 rfl rfl (Or.inl rfl) e29 c30 ?_
    refine zA_ldn rfl rfl rfl ?_
    obtain ⟨p32, i33, j34, e35, c36, c37, e38, H⟩ := zar_e H
    obtain ⟨h39, e40, H⟩ := zlet_e H
    refine zA_ias rfl rfl e35 c36 c37 e38 e40 ?_
    refine zA_aldn rfl rfl rfl ?_
    refine zA_gf3 rfl rfl e29 c30 ?_
    refine zA_aldn rfl rfl rfl ?_
    refine zA_gf0 rfl rfl (Or.inl rfl) e29 c30 ?_
    refine zA_ldn rfl rfl rfl ?_
    obtain ⟨p41, i42, j43, e44, c45, c46, e47, H⟩ := zar_e H
    obtain ⟨h48, e49, H⟩ := zlet_e H
    refine zA_ias rfl rfl e44 c45 c46 e47 e49 ?_
    refine zA_aldn rfl rfl rfl ?_
    refine zA_gf3 rfl rfl e29 c30 ?_
    refine zA_aldn rfl rfl rfl ?_
    refine zA_gf0 rfl rfl (Or.inl rfl) e29 c30 ?_
    refine zA_ldn rfl rfl rfl ?_
    obtain ⟨p50, i51, j52, e53, c54, c55, e56, H⟩ := zar_e H
    obtain ⟨h57, e58, H⟩ := zlet_e H
    refine zA_ias rfl rfl e53 c54 c55 e56 e58 ?_
    refine zA_aldn rfl rfl rfl ?_
    refine zA_gf3 rfl rfl e29 c30 ?_
    refine zA_aldn rfl rfl rfl ?_
    refine zA_gf0 rfl rfl (Or.inl rfl) e29 c30 ?_
    refine zA_ld rfl rfl rfl ?_
    obtain ⟨p59, i60, j61, e62, c63, c64, e65, H⟩ := zar_e H
    obtain ⟨h66, e67, H⟩ := zlet_e H
    refine zA_ias rfl rfl e62 c63 c64 e65 e67 ?_
    refine zA_aldn rfl rfl rfl ?_
    refine zA_gf3 rfl rfl e29 c30 ?_
    refine zA_aldn rfl rfl rfl ?_
    refine zA_gf0 rfl rfl (Or.inl rfl) e29 c30 ?_
    refine zA_ld rfl rfl rfl ?_
    obtain ⟨p68, i69, j70, e71, c72, c73, e74, H⟩ := zar_e H
    obtain ⟨h75, e76, H⟩ := zlet_e H
    refine zA_ias rfl rfl e71 c72 c73 e74 e76 ?_
    refine zA_aldn rfl rfl rfl ?_
    refine zA_gf3 rfl rfl e29 c30 ?_
    refine zA_aldn rfl rfl rfl ?_
    refine zA_gf0 rfl rfl (Or.inl rfl) e29 c30 ?_
    refine zA_ld rfl rfl rfl ?_
    obtain ⟨p77, i78, j79, e80, c81, c82, e83, H⟩ := zar_e H
    obtain ⟨h84, e85, H⟩ := zlet_e H
    refine zA_ias rfl rfl e80 c81 c82 e83 e85 ?_
    refine zA_aldn rfl rfl rfl ?_
    refine zA_gf3 rfl rfl e29 c30 ?_
    refine zA_aldn rfl rfl rfl ?_
    refine zA_gf0 rfl rfl (Or.inl rfl) e29 c30 ?_
    refine zA_ld rfl rfl rfl ?_
    obtain ⟨p86, i87, j88, e89, c90, c91, e92, H⟩ := zar_e H
    obtain ⟨h93, e94, H⟩ := zlet_e H
    refine zA_ias rfl rfl e89 c90 c91 e92 e94 ?_
    refine zA_aldn rfl rfl rfl ?_
    refine zA_gf3 rfl rfl e29 c30 ?_
    refine zA_aldn rfl rfl rfl ?_
    refine zA_gf0 rfl rfl (Or.inl rfl) e29 c30 ?_
    refine zA_ld rfl rfl rfl ?_
    obtain ⟨p95, i96, j97, e98, c99, c100, e101, H⟩ := zar_e H
    obtain ⟨c104, H⟩ := zif_e H
    obtain ⟨h102, e103, H⟩ := zlet_e H
    refine zA_bas rfl rfl e98 c99 c100 e101 c104 e103 ?_
    refine zA_aldn rfl rfl rfl ?_
    refine zA_gf3 rfl rfl e29 c30 ?_
    refine zA_aldn rfl rfl rfl ?_
    refine zA_gf0 rfl rfl (Or.inl rfl) e29 c30 ?_
    refine zA_ld rfl rfl rfl ?_
    obtain ⟨p105, i106, j107, e108, c109, c110, e111, H⟩ := zar_e H
    obtain ⟨c114, H⟩ := zif_e H
    obtain ⟨h112, e113, H⟩ := zlet_e H
    refine zA_bas rfl rfl e108 c109 c110 e111 c114 e113 ?_
    refine zA_aldn rfl rfl rfl ?_
    refine zA_dup rfl rfl (zcat_rv _) ?_
    refine zA_gf0 rfl rfl (Or.inl rfl) e29 c30 ?_
    refine zA_push rfl rfl zkk5 ?_
    refine zA_st (st' := [zI ((zi h112 p27 i28 2) + (1 : Int32)), zrv x0]) rfl rfl rfl rfl ?_
    obtain ⟨h115, e116, H⟩ := zlet_e H
    refine zA_pf0 rfl rfl e29 c30 e116 ?_
    refine zA_aldn rfl rfl rfl ?_
    refine zA_gf0 rfl rfl (Or.inl rfl) e29 c30 ?_
    refine zA_push rfl rfl zkk5 ?_
    refine zA_st (st' := [zI ((zi h115 p27 i28 2) - (1 : Int32))]) rfl rfl rfl rfl ?_
    cases H
    exact zA_ret rfl rfl
  · refine zA_brF (c := (zi h25 p27 i28 0) ≤ 0) rfl rfl rfl c31 ?_
    refine zA_push rfl rfl zkk7 ?_
    cases H
    exact zA_ret rfl rfl
def zm145_56 (x0 : zq) (x1 : Int32) (x2 : Int32) (x3 : Int32) (x4 : Int32) (x5 : Int32) (x6 : Int32) (x7 : Int32) (x8 : Int32) (x9 : Int32) (s0 : Int32) (h : zH) : zRs Int32 :=
  if s0 = 0 then
    zm145_69 x0 x1 x2 x3 x4 x5 x6 x7 x8 x9 x0 (1 : Int32) h
  else
    zob 12 x0 fun p22 i23 =>
    if (zi h p22 i23 2) = (30 : Int32) then
      zm145_69 x0 x1 x2 x3 x4 x5 x6 x7 x8 x9 x0 (2 : Int32) h
    else
      zm145_69 x0 x1 x2 x3 x4 x5 x6 x7 x8 x9 x0 (0 : Int32) h
theorem zmS145_56 : ∀ (x0 : zq) (x1 : Int32) (x2 : Int32) (x3 : Int32) (x4 : Int32) (x5 : Int32) (x6 : Int32) (x7 : Int32) (x8 : Int32) (x9 : Int32) (s0 : Int32) (h : zH) (r : Int32 ⊕ Nat) (h' : zH), zm145_56 x0 x1 x2 x3 x4 x5 x6 x7 x8 x9 s0 h = some (r, h') → zAt 145 56 [some (zrv x0), some (zI x1), some (zI x2), some (zI x3), some (zI x4), some (zI x5), some (zI x6), some (zI x7), some (zI x8), some (zI x9), none] [zI s0] h (zoI r) h' := by
  intro x0 x1 x2 x3 x4 x5 x6 x7 x8 x9 s0 h r h' H
  unfold zm145_56 at H
  refine zA_ist2 rfl rfl rfl (zset1 (L' := [some (zrv x0), some (zI x1), some (zI x2), some (zI x3), some (zI x4), some (zI x5), some (zI x6), some (zI x7), some (zI x8), some (zI x9), some (zI s0)]) rfl rfl (zpcV rfl rfl)) ?_
  refine zA_aldn rfl rfl rfl ?_
  refine zA_ld rfl rfl rfl ?_
  rcases zite_e H with ⟨c21, H⟩ | ⟨c21, H⟩
  · refine zA_brF' (c := s0 = 0) rfl rfl rfl c21 ?_
    refine zA_push rfl rfl zkk5 ?_
    refine zA_go rfl rfl ?_
    exact zA_tr (L := [some (zrv x0), some (zI x1), some (zI x2), some (zI x3), some (zI x4), some (zI x5), some (zI x6), some (zI x7), some (zI x8), some (zI x9), none]) rfl rfl (zmS145_69 _ _ _ _ _ _ _ _ _ _ _ _ _ _ _ H)
  · refine zA_brT' (c := s0 = 0) rfl rfl rfl c21 ?_
    refine zA_tr (L := [some (zrv x0), some (zI x1), some (zI x2), some (zI x3), some (zI x4), some (zI x5), some (zI x6), some (zI x7), some (zI x8), some (zI x9), none]) rfl rfl ?_
    refine zA_aldn rfl rfl rfl ?_
    obtain ⟨p22, i23, e24, c25, H⟩ := zob_e H
    refine zA_gf0 rfl rfl (Or.inl rfl) e24 c25 ?_
    refine zA_push rfl rfl zkk10 ?_
    rcases zite_e H with ⟨c26, H⟩ | ⟨c26, H⟩
    · refine zA_brF' (c := (zi h p22 i23 2) = (30 : Int32)) rfl rfl rfl c26 ?_
      refine zA_push rfl rfl zkk23 ?_
      refine zA_go rfl rfl ?_
      exact zA_tr (L := [some (zrv x0), some (zI x1), some (zI x2), some (zI x3), some (zI x4), some (zI x5), some (zI x6), some (zI x7), some (zI x8), some (zI x9), none]) rfl rfl (zmS145_69 _ _ _ _ _ _ _ _ _ _ _ _ _ _ _ H)
    · refine zA_brT' (c := (zi h p22 i23 2) = (30 : Int32)) rfl rfl rfl c26 ?_
      refine zA_push rfl rfl zkk7 ?_
      exact zA_tr (L := [some (zrv x0), some (zI x1), some (zI x2), some (zI x3), some (zI x4), some (zI x5), some (zI x6), some (zI x7), some (zI x8), some (zI x9), none]) rfl rfl (zmS145_69 _ _ _ _ _ _ _ _ _ _ _ _ _ _ _ H)
def zm145_38 (x0 : zq) (x1 : Int32) (x2 : Int32) (x3 : Int32) (x4 : Int32) (x5 : Int32) (x6 : Int32) (x7 : Int32) (x8 : Int32) (x9 : Int32) (s0 : Int32) (h : zH) : zRs Int32 :=
  if s0 = 0 then
    zm145_56 x0 x1 x2 x3 x4 x5 x6 x7 x8 x9 (0 : Int32) h
  else
    if x4 = 0 then
      if x5 = (-1 : Int32) then
        zm145_56 x0 x1 x2 x3 x4 x5 x6 x7 x8 x9 (1 : Int32) h
      else
        zm145_56 x0 x1 x2 x3 x4 x5 x6 x7 x8 x9 (0 : Int32) h
    else
      zb (zm140 x5 h) fun x25 h24 =>
      if x25 = 0 then
        zm145_56 x0 x1 x2 x3 x4 x5 x6 x7 x8 x9 (0 : Int32) h24
      else
        if x5 = x1 then
          zm145_56 x0 x1 x2 x3 x4 x5 x6 x7 x8 x9 (0 : Int32) h24
        else
          zm145_56 x0 x1 x2 x3 x4 x5 x6 x7 x8 x9 (1 : Int32) h24
theorem zmS145_38 : ∀ (x0 : zq) (x1 : Int32) (x2 : Int32) (x3 : Int32) (x4 : Int32) (x5 : Int32) (x6 : Int32) (x7 : Int32) (x8 : Int32) (x9 : Int32) (s0 : Int32) (h : zH) (r : Int32 ⊕ Nat) (h' : zH), zm145_38 x0 x1 x2 x3 x4 x5 x6 x7 x8 x9 s0 h = some (r, h') → zAt 145 38 [some (zrv x0), some (zI x1), some (zI x2), some (zI x3), some (zI x4), some (zI x5), some (zI x6), some (zI x7), some (zI x8), some (zI x9), none] [zI s0] h (zoI r) h' := by
  intro x0 x1 x2 x3 x4 x5 x6 x7 x8 x9 s0 h r h' H
  unfold zm145_38 at H
  refine zA_ist2 rfl rfl rfl (zset1 (L' := [some (zrv x0), some (zI x1), some (zI x2), some (zI x3), some (zI x4), some (zI x5), some (zI x6), some (zI x7), some (zI x8), some (zI x9), some (zI s0)]) rfl rfl (zpcV rfl rfl)) ?_
  refine zA_ld rfl rfl rfl ?_
  rcases zite_e H with ⟨c21, H⟩ | ⟨c21, H⟩
  · refine zA_brT (c := s0 = 0) rfl rfl rfl c21 ?_
    refine zA_tr (L := [some (zrv x0), some (zI x1), some (zI x2), some (zI x3), some (zI x4), some (zI x5), some (zI x6), some (zI x7), some (zI x8), some (zI x9), none]) rfl rfl ?_
    refine zA_push rfl rfl zkk7 ?_
    exact zA_tr (L := [some (zrv x0), some (zI x1), some (zI x2), some (zI x3), some (zI x4), some (zI x5), some (zI x6), some (zI x7), some (zI x8), some (zI x9), none]) rfl rfl (zmS145_56 _ _ _ _ _ _ _ _ _ _ _ _ _ _ H)
  · refine zA_brF (c := s0 = 0) rfl rfl rfl c21 ?_
    refine zA_ld rfl rfl rfl ?_
    rcases zite_e H with ⟨c22, H⟩ | ⟨c22, H⟩
    · refine zA_brF' (c := x4 = 0) rfl rfl rfl c22 ?_
      refine zA_ld rfl rfl rfl ?_
      refine zA_push rfl rfl zkk6 ?_
      rcases zite_e H with ⟨c23, H⟩ | ⟨c23, H⟩
      · refine zA_brF' (c := x5 = (-1 : Int32)) rfl rfl rfl c23 ?_
        refine zA_go rfl rfl ?_
        refine zA_tr (L := [some (zrv x0), some (zI x1), some (zI x2), some (zI x3), some (zI x4), some (zI x5), some (zI x6), some (zI x7), some (zI x8), some (zI x9), none]) rfl rfl ?_
        refine zA_push rfl rfl zkk5 ?_
        refine zA_go rfl rfl ?_
        exact zA_tr (L := [some (zrv x0), some (zI x1), some (zI x2), some (zI x3), some (zI x4), some (zI x5), some (zI x6), some (zI x7), some (zI x8), some (zI x9), none]) rfl rfl (zmS145_56 _ _ _ _ _ _ _ _ _ _ _ _ _ _ H)
      · refine zA_brT' (c := x5 = (-1 : Int32)) rfl rfl rfl c23 ?_
        refine zA_tr (L := [some (zrv x0), some (zI x1), some (zI x2), some (zI x3), some (zI x4), some (zI x5), some (zI x6), some (zI x7), some (zI x8), some (zI x9), none]) rfl rfl ?_
        refine zA_push rfl rfl zkk7 ?_
        exact zA_tr (L := [some (zrv x0), some (zI x1), some (zI x2), some (zI x3), some (zI x4), some (zI x5), some (zI x6), some (zI x7), some (zI x8), some (zI x9), none]) rfl rfl (zmS145_56 _ _ _ _ _ _ _ _ _ _ _ _ _ _ H)
    · refine zA_brT' (c := x4 = 0) rfl rfl rfl c22 ?_
      refine zA_tr (L := [some (zrv x0), some (zI x1), some (zI x2), some (zI x3), some (zI x4), some (zI x5), some (zI x6), some (zI x7), some (zI x8), some (zI x9), none]) rfl rfl ?_
      refine zA_ld rfl rfl rfl ?_
      rcases zb_e H with ⟨x25, h24, C, H⟩ | ⟨E, h24, C, H⟩
      · refine zA_callV (as := [zI x5]) (st' := []) rfl rfl rfl rfl rfl (zmE140 _) rfl (zmS140 C) ?_
        rcases zite_e H with ⟨c26, H⟩ | ⟨c26, H⟩
        · refine zA_brT (c := x25 = 0) rfl rfl rfl c26 ?_
          refine zA_push rfl rfl zkk7 ?_
          exact zA_tr (L := [some (zrv x0), some (zI x1), some (zI x2), some (zI x3), some (zI x4), some (zI x5), some (zI x6), some (zI x7), some (zI x8), some (zI x9), none]) rfl rfl (zmS145_56 _ _ _ _ _ _ _ _ _ _ _ _ _ _ H)
        · refine zA_brF (c := x25 = 0) rfl rfl rfl c26 ?_
          refine zA_ld rfl rfl rfl ?_
          refine zA_ldn rfl rfl rfl ?_
          rcases zite_e H with ⟨c27, H⟩ | ⟨c27, H⟩
          · refine zA_brT (c := x5 = x1) rfl rfl rfl c27 ?_
            refine zA_push rfl rfl zkk7 ?_
            exact zA_tr (L := [some (zrv x0), some (zI x1), some (zI x2), some (zI x3), some (zI x4), some (zI x5), some (zI x6), some (zI x7), some (zI x8), some (zI x9), none]) rfl rfl (zmS145_56 _ _ _ _ _ _ _ _ _ _ _ _ _ _ H)
          · refine zA_brF (c := x5 = x1) rfl rfl rfl c27 ?_
            refine zA_push rfl rfl zkk5 ?_
            refine zA_go rfl rfl ?_
            exact zA_tr (L := [some (zrv x0), some (zI x1), some (zI x2), some (zI x3), some (zI x4), some (zI x5), some (zI x6), some (zI x7), some (zI x8), some (zI x9), none]) rfl rfl (zmS145_56 _ _ _ _ _ _ _ _ _ _ _ _ _ _ H)
      · cases H
        exact zA_callX (as := [zI x5]) (st' := []) rfl rfl rfl rfl (zmE140 _) rfl rfl rfl (zmS140 C)
-- 145: ReleaseHouseModel.artefact(IIIIIIIZZ)I
def zm145 (x0 : zq) (x1 : Int32) (x2 : Int32) (x3 : Int32) (x4 : Int32) (x5 : Int32) (x6 : Int32) (x7 : Int32) (x8 : Int32) (x9 : Int32) (h : zH) : zRs Int32 :=
  zb (zm140 x1 h) fun x22 h21 =>
  if x22 = 0 then
    zm145_38 x0 x1 x2 x3 x4 x5 x6 x7 x8 x9 (0 : Int32) h21
  else
    zb (zm139 x2 (0 : Int32) (5 : Int32) h21) fun x25 h24 =>
    if x25 = 0 then
      zm145_38 x0 x1 x2 x3 x4 x5 x6 x7 x8 x9 (0 : Int32) h24
    else
      zb (zm139 x3 (0 : Int32) (255 : Int32) h24) fun x28 h27 =>
      if x28 = 0 then
        zm145_38 x0 x1 x2 x3 x4 x5 x6 x7 x8 x9 (0 : Int32) h27
      else
        zb (zm139 x4 (0 : Int32) (255 : Int32) h27) fun x31 h30 =>
        if x31 = 0 then
          zm145_38 x0 x1 x2 x3 x4 x5 x6 x7 x8 x9 (0 : Int32) h30
        else
          zb (zm139 x6 (1 : Int32) (255 : Int32) h30) fun x34 h33 =>
          if x34 = 0 then
            zm145_38 x0 x1 x2 x3 x4 x5 x6 x7 x8 x9 (0 : Int32) h33
          else
            zb (zm139 x7 (0 : Int32) (7 : Int32) h33) fun x37 h36 =>
            if x37 = 0 then
              zm145_38 x0 x1 x2 x3 x4 x5 x6 x7 x8 x9 (0 : Int32) h36
            else
              if ((x6 >>> (x7 &&& 31)) &&& (1 : Int32)) = (1 : Int32) then
                zm145_38 x0 x1 x2 x3 x4 x5 x6 x7 x8 x9 (1 : Int32) h36
              else
                zm145_38 x0 x1 x2 x3 x4 x5 x6 x7 x8 x9 (0 : Int32) h36
theorem zmS145 {x0 : zq} {x1 : Int32} {x2 : Int32} {x3 : Int32} {x4 : Int32} {x5 : Int32} {x6 : Int32} {x7 : Int32} {x8 : Int32} {x9 : Int32} {h : zH} {r : Int32 ⊕ Nat} {h' : zH} (H : zm145 x0 x1 x2 x3 x4 x5 x6 x7 x8 x9 h = some (r, h')) : zAt 145 0 [some (zrv x0), some (zI x1), some (zI x2), some (zI x3), some (zI x4), some (zI x5), some (zI x6), some (zI x7), some (zI x8), some (zI x9), none] [] h (zoI r) h' := by
  unfold zm145 at H
  refine zA_ldn rfl rfl rfl ?_
  rcases zb_e H with ⟨x22, h21, C, H⟩ | ⟨E, h21, C, H⟩
  · refine zA_callV (as := [zI x1]) (st' := []) rfl rfl rfl rfl rfl (zmE140 _) rfl (zmS140 C) ?_
    rcases zite_e H with ⟨c23, H⟩ | ⟨c23, H⟩
    · refine zA_brT (c := x22 = 0) rfl rfl rfl c23 ?_
      refine zA_push rfl rfl zkk7 ?_
      exact zA_tr (L := [some (zrv x0), some (zI x1), some (zI x2), some (zI x3), some (zI x4), some (zI x5), some (zI x6), some (zI x7), some (zI x8), some (zI x9), none]) rfl rfl (zmS145_38 _ _ _ _ _ _ _ _ _ _ _ _ _ _ H)
    · refine zA_brF (c := x22 = 0) rfl rfl rfl c23 ?_
      refine zA_ldn rfl rfl rfl ?_
      refine zA_push rfl rfl zkk7 ?_
      refine zA_push rfl rfl zkk20 ?_
      rcases zb_e H with ⟨x25, h24, C, H⟩ | ⟨E, h24, C, H⟩
      · refine zA_callV (as := [zI x2, zI (0 : Int32), zI (5 : Int32)]) (st' := []) rfl rfl rfl rfl rfl (zmE139 _ _ _) rfl (zmS139 C) ?_
        rcases zite_e H with ⟨c26, H⟩ | ⟨c26, H⟩
        · refine zA_brT (c := x25 = 0) rfl rfl rfl c26 ?_
          refine zA_push rfl rfl zkk7 ?_
          exact zA_tr (L := [some (zrv x0), some (zI x1), some (zI x2), some (zI x3), some (zI x4), some (zI x5), some (zI x6), some (zI x7), some (zI x8), some (zI x9), none]) rfl rfl (zmS145_38 _ _ _ _ _ _ _ _ _ _ _ _ _ _ H)
        · refine zA_brF (c := x25 = 0) rfl rfl rfl c26 ?_
          refine zA_ldn rfl rfl rfl ?_
          refine zA_push rfl rfl zkk7 ?_
          refine zA_push rfl rfl zkk21 ?_
          rcases zb_e H with ⟨x28, h27, C, H⟩ | ⟨E, h27, C, H⟩
          · refine zA_callV (as := [zI x3, zI (0 : Int32), zI (255 : Int32)]) (st' := []) rfl rfl rfl rfl rfl (zmE139 _ _ _) rfl (zmS139 C) ?_
            rcases zite_e H with ⟨c29, H⟩ | ⟨c29, H⟩
            · refine zA_brT (c := x28 = 0) rfl rfl rfl c29 ?_
              refine zA_push rfl rfl zkk7 ?_
              exact zA_tr (L := [some (zrv x0), some (zI x1), some (zI x2), some (zI x3), some (zI x4), some (zI x5), some (zI x6), some (zI x7), some (zI x8), some (zI x9), none]) rfl rfl (zmS145_38 _ _ _ _ _ _ _ _ _ _ _ _ _ _ H)
            · refine zA_brF (c := x28 = 0) rfl rfl rfl c29 ?_
              refine zA_ld rfl rfl rfl ?_
              refine zA_push rfl rfl zkk7 ?_
              refine zA_push rfl rfl zkk21 ?_
              rcases zb_e H with ⟨x31, h30, C, H⟩ | ⟨E, h30, C, H⟩
              · refine zA_callV (as := [zI x4, zI (0 : Int32), zI (255 : Int32)]) (st' := []) rfl rfl rfl rfl rfl (zmE139 _ _ _) rfl (zmS139 C) ?_
                rcases zite_e H with ⟨c32, H⟩ | ⟨c32, H⟩
                · refine zA_brT (c := x31 = 0) rfl rfl rfl c32 ?_
                  refine zA_push rfl rfl zkk7 ?_
                  exact zA_tr (L := [some (zrv x0), some (zI x1), some (zI x2), some (zI x3), some (zI x4), some (zI x5), some (zI x6), some (zI x7), some (zI x8), some (zI x9), none]) rfl rfl (zmS145_38 _ _ _ _ _ _ _ _ _ _ _ _ _ _ H)
                · refine zA_brF (c := x31 = 0) rfl rfl rfl c32 ?_
                  refine zA_ld rfl rfl rfl ?_
                  refine zA_push rfl rfl zkk5 ?_
                  refine zA_push rfl rfl zkk21 ?_
                  rcases zb_e H with ⟨x34, h33, C, H⟩ | ⟨E, h33, C, H⟩
                  · refine zA_callV (as := [zI x6, zI (1 : Int32), zI (255 : Int32)]) (st' := []) rfl rfl rfl rfl rfl (zmE139 _ _ _) rfl (zmS139 C) ?_
                    rcases zite_e H with ⟨c35, H⟩ | ⟨c35, H⟩
                    · refine zA_brT (c := x34 = 0) rfl rfl rfl c35 ?_
                      refine zA_push rfl rfl zkk7 ?_
                      exact zA_tr (L := [some (zrv x0), some (zI x1), some (zI x2), some (zI x3), some (zI x4), some (zI x5), some (zI x6), some (zI x7), some (zI x8), some (zI x9), none]) rfl rfl (zmS145_38 _ _ _ _ _ _ _ _ _ _ _ _ _ _ H)
                    · refine zA_brF (c := x34 = 0) rfl rfl rfl c35 ?_
                      refine zA_ld rfl rfl rfl ?_
                      refine zA_push rfl rfl zkk7 ?_
                      refine zA_push rfl rfl zkk22 ?_
                      rcases zb_e H with ⟨x37, h36, C, H⟩ | ⟨E, h36, C, H⟩
                      · refine zA_callV (as := [zI x7, zI (0 : Int32), zI (7 : Int32)]) (st' := []) rfl rfl rfl rfl rfl (zmE139 _ _ _) rfl (zmS139 C) ?_
                        rcases zite_e H with ⟨c38, H⟩ | ⟨c38, H⟩
                        · refine zA_brT (c := x37 = 0) rfl rfl rfl c38 ?_
                          refine zA_push rfl rfl zkk7 ?_
                          exact zA_tr (L := [some (zrv x0), some (zI x1), some (zI x2), some (zI x3), some (zI x4), some (zI x5), some (zI x6), some (zI x7), some (zI x8), some (zI x9), none]) rfl rfl (zmS145_38 _ _ _ _ _ _ _ _ _ _ _ _ _ _ H)
                        · refine zA_brF (c := x37 = 0) rfl rfl rfl c38 ?_
                          refine zA_ld rfl rfl rfl ?_
                          refine zA_ld rfl rfl rfl ?_
                          refine zA_st (st' := [zI (x6 >>> (x7 &&& 31))]) rfl rfl rfl rfl ?_
                          refine zA_push rfl rfl zkk5 ?_
                          refine zA_st (st' := [zI ((x6 >>> (x7 &&& 31)) &&& (1 : Int32))]) rfl rfl rfl rfl ?_
                          refine zA_push rfl rfl zkk5 ?_
                          rcases zite_e H with ⟨c39, H⟩ | ⟨c39, H⟩
                          · refine zA_brF' (c := ((x6 >>> (x7 &&& 31)) &&& (1 : Int32)) = (1 : Int32)) rfl rfl rfl c39 ?_
                            refine zA_push rfl rfl zkk5 ?_
                            refine zA_go rfl rfl ?_
                            exact zA_tr (L := [some (zrv x0), some (zI x1), some (zI x2), some (zI x3), some (zI x4), some (zI x5), some (zI x6), some (zI x7), some (zI x8), some (zI x9), none]) rfl rfl (zmS145_38 _ _ _ _ _ _ _ _ _ _ _ _ _ _ H)
                          · refine zA_brT' (c := ((x6 >>> (x7 &&& 31)) &&& (1 : Int32)) = (1 : Int32)) rfl rfl rfl c39 ?_
                            refine zA_push rfl rfl zkk7 ?_
                            exact zA_tr (L := [some (zrv x0), some (zI x1), some (zI x2), some (zI x3), some (zI x4), some (zI x5), some (zI x6), some (zI x7), some (zI x8), some (zI x9), none]) rfl rfl (zmS145_38 _ _ _ _ _ _ _ _ _ _ _ _ _ _ H)
                      · cases H
                        exact zA_callX (as := [zI x7, zI (0 : Int32), zI (7 : Int32)]) (st' := []) rfl rfl rfl rfl (zmE139 _ _ _) rfl rfl rfl (zmS139 C)
                  · cases H
                    exact zA_callX (as := [zI x6, zI (1 : Int32), zI (255 : Int32)]) (st' := []) rfl rfl rfl rfl (zmE139 _ _ _) rfl rfl rfl (zmS139 C)
              · cases H
                exact zA_callX (as := [zI x4, zI (0 : Int32), zI (255 : Int32)]) (st' := []) rfl rfl rfl rfl (zmE139 _ _ _) rfl rfl rfl (zmS139 C)
          · cases H
            exact zA_callX (as := [zI x3, zI (0 : Int32), zI (255 : Int32)]) (st' := []) rfl rfl rfl rfl (zmE139 _ _ _) rfl rfl rfl (zmS139 C)
      · cases H
        exact zA_callX (as := [zI x2, zI (0 : Int32), zI (5 : Int32)]) (st' := []) rfl rfl rfl rfl (zmE139 _ _ _) rfl rfl rfl (zmS139 C)
  · cases H
    exact zA_callX (as := [zI x1]) (st' := []) rfl rfl rfl rfl (zmE140 _) rfl rfl rfl (zmS140 C)
theorem zmE145 (x0 : zq) (x1 : Int32) (x2 : Int32) (x3 : Int32) (x4 : Int32) (x5 : Int32) (x6 : Int32) (x7 : Int32) (x8 : Int32) (x9 : Int32) : zpad (zPr.2.1 145).1 (zil [zrv x0, zI x1, zI x2, zI x3, zI x4, zI x5, zI x6, zI x7, zI x8, zI x9]) = [some (zrv x0), some (zI x1), some (zI x2), some (zI x3), some (zI x4), some (zI x5), some (zI x6), some (zI x7), some (zI x8), some (zI x9), none] := by
  simp only [zil_A, zil_I, zil_F, zil_D, zil_N]
  rfl
-- 137: ReleaseHouseModel.thrown()I
def zm137 (x0 : zq) (h : zH) : zRs Int32 :=
  zob 12 x0 fun p21 i22 =>
  some (.inl (zi h p21 i22 0), h)
theorem zmS137 {x0 : zq} {h : zH} {r : Int32 ⊕ Nat} {h' : zH} (H : zm137 x0 h = some (r, h')) : zAt 137 0 [some (zrv x0)] [] h (zoI r) h' := by
  unfold zm137 at H
  refine zA_aldn rfl rfl rfl ?_
  obtain ⟨p21, i22, e23, c24, H⟩ := zob_e H
  refine zA_gf0 rfl rfl (Or.inl rfl) e23 c24 ?_
  cases H
  exact zA_ret rfl rfl
theorem zmE137 (x0 : zq) : zpad (zPr.2.1 137).1 (zil [zrv x0]) = [some (zrv x0)] := by
  simp only [zil_A, zil_I, zil_F, zil_D, zil_N]
  rfl
-- 130: ReleaseHouse.checkNumber(II)V
def zm130 (x0 : Int32) (x1 : Int32) (h : zH) : zRs Unit :=
  if x0 < 0 then
    some (.inr 2, zro h 1 6)
  else
    if x0 < x1 then
      some (.inl (), h)
    else
      some (.inr 2, zro h 1 6)
theorem zmS130 {x0 : Int32} {x1 : Int32} {h : zH} {r : Unit ⊕ Nat} {h' : zH} (H : zm130 x0 x1 h = some (r, h')) : zAt 130 0 [some (zI x0), some (zI x1)] [] h (zoU r) h' := by
  unfold zm130 at H
  refine zA_ldn rfl rfl rfl ?_
  rcases zite_e H with ⟨c21, H⟩ | ⟨c21, H⟩
  · refine zA_brT (c := x0 < 0) rfl rfl rfl c21 ?_
    refine zA_tr (L := [none, none]) rfl rfl ?_
    cases H
    exact zA_thr rfl rfl
  · refine zA_brF (c := x0 < 0) rfl rfl rfl c21 ?_
    refine zA_ldn rfl rfl rfl ?_
    refine zA_ldn rfl rfl rfl ?_
    rcases zite_e H with ⟨c22, H⟩ | ⟨c22, H⟩
    · refine zA_brT (c := x0 < x1) rfl rfl rfl c22 ?_
      refine zA_tr (L := [none, none]) rfl rfl ?_
      cases H
      exact zA_ret rfl rfl
    · refine zA_brF (c := x0 < x1) rfl rfl rfl c22 ?_
      refine zA_tr (L := [none, none]) rfl rfl ?_
      cases H
      exact zA_thr rfl rfl
theorem zmE130 (x0 : Int32) (x1 : Int32) : zpad (zPr.2.1 130).1 (zil [zI x0, zI x1]) = [some (zI x0), some (zI x1)] := by
  simp only [zil_A, zil_I, zil_F, zil_D, zil_N]
  rfl
def zm1_42 (x0 : zq) (x1 : zq) (h : zH) : zRs Int32 :=
  zob 0 x1 fun p21 i22 =>
  zob 0 x0 fun p25 i26 =>
  if (zi h p21 i22 5) = (zi h p25 i26 1) then
    if ((zi h p21 i22 4) &&& ((zi h p25 i26 3) ^^^ (-1 : Int32))) = 0 then
      some (.inl (0 : Int32), h)
    else
      some (.inl (4 : Int32), h)
  else
    some (.inl (0 : Int32), h)
theorem zmS1_42 : ∀ (x0 : zq) (x1 : zq) (h : zH) (r : Int32 ⊕ Nat) (h' : zH), zm1_42 x0 x1 h = some (r, h') → zAt 1 42 [some (zrv x0), some (zrv x1)] [] h (zoI r) h' := by
  intro x0 x1 h r h' H
  unfold zm1_42 at H
  refine zA_aldn rfl rfl rfl ?_
  obtain ⟨p21, i22, e23, c24, H⟩ := zob_e H
  refine zA_gf0 rfl rfl (Or.inl rfl) e23 c24 ?_
  refine zA_aldn rfl rfl rfl ?_
  obtain ⟨p25, i26, e27, c28, H⟩ := zob_e H
  refine zA_gf0 rfl rfl (Or.inl rfl) e27 c28 ?_
  rcases zite_e H with ⟨c29, H⟩ | ⟨c29, H⟩
  · refine zA_brF' (c := (zi h p21 i22 5) = (zi h p25 i26 1)) rfl rfl rfl c29 ?_
    refine zA_aldn rfl rfl rfl ?_
    refine zA_gf0 rfl rfl (Or.inl rfl) e23 c24 ?_
    refine zA_aldn rfl rfl rfl ?_
    refine zA_gf0 rfl rfl (Or.inl rfl) e27 c28 ?_
    refine zA_push rfl rfl zkk6 ?_
    refine zA_st (st' := [zI ((zi h p25 i26 3) ^^^ (-1 : Int32)), zI (zi h p21 i22 4)]) rfl rfl rfl rfl ?_
    refine zA_st (st' := [zI ((zi h p21 i22 4) &&& ((zi h p25 i26 3) ^^^ (-1 : Int32)))]) rfl rfl rfl rfl ?_
    rcases zite_e H with ⟨c30, H⟩ | ⟨c30, H⟩
    · refine zA_brT (c := ((zi h p21 i22 4) &&& ((zi h p25 i26 3) ^^^ (-1 : Int32))) = 0) rfl rfl rfl c30 ?_
      refine zA_tr (L := [none, none]) rfl rfl ?_
      refine zA_push rfl rfl zkk7 ?_
      cases H
      exact zA_ret rfl rfl
    · refine zA_brF (c := ((zi h p21 i22 4) &&& ((zi h p25 i26 3) ^^^ (-1 : Int32))) = 0) rfl rfl rfl c30 ?_
      refine zA_push rfl rfl zkk9 ?_
      refine zA_go rfl rfl ?_
      refine zA_tr (L := [none, none]) rfl rfl ?_
      cases H
      exact zA_ret rfl rfl
  · refine zA_brT' (c := (zi h p21 i22 5) = (zi h p25 i26 1)) rfl rfl rfl c29 ?_
    refine zA_tr (L := [none, none]) rfl rfl ?_
    refine zA_push rfl rfl zkk7 ?_
    cases H
    exact zA_ret rfl rfl
-- 1: ReleaseHouse$Artefact.clashWith(LReleaseHouse$Artefact;)I
def zm1 (x0 : zq) (x1 : zq) (h : zH) : zRs Int32 :=
  zob 0 x0 fun p21 i22 =>
  zob 0 x1 fun p25 i26 =>
  if (zi h p21 i22 1) = (zi h p25 i26 1) then
    if ((zi h p21 i22 6) &&& ((1 : Int32) <<< ((zi h p25 i26 7) &&& 31))) = 0 then
      some (.inl (1 : Int32), h)
    else
      if ((zi h p25 i26 6) &&& ((1 : Int32) <<< ((zi h p21 i22 7) &&& 31))) = 0 then
        some (.inl (2 : Int32), h)
      else
        some (.inl (0 : Int32), h)
  else
    if (zi h p21 i22 5) = (zi h p25 i26 1) then
      if ((zi h p21 i22 4) &&& ((zi h p25 i26 3) ^^^ (-1 : Int32))) = 0 then
        zm1_42 x0 x1 h
      else
        some (.inl (3 : Int32), h)
    else
      zm1_42 x0 x1 h
theorem zmS1 {x0 : zq} {x1 : zq} {h : zH} {r : Int32 ⊕ Nat} {h' : zH} (H : zm1 x0 x1 h = some (r, h')) : zAt 1 0 [some (zrv x0), some (zrv x1)] [] h (zoI r) h' := by
  unfold zm1 at H
  refine zA_aldn rfl rfl rfl ?_
  obtain ⟨p21, i22, e23, c24, H⟩ := zob_e H
  refine zA_gf0 rfl rfl (Or.inl rfl) e23 c24 ?_
  refine zA_aldn rfl rfl rfl ?_
  obtain ⟨p25, i26, e27, c28, H⟩ := zob_e H
  refine zA_gf0 rfl rfl (Or.inl rfl) e27 c28 ?_
  rcases zite_e H with ⟨c29, H⟩ | ⟨c29, H⟩
  · refine zA_brF' (c := (zi h p21 i22 1) = (zi h p25 i26 1)) rfl rfl rfl c29 ?_
    refine zA_aldn rfl rfl rfl ?_
    refine zA_gf0 rfl rfl (Or.inl rfl) e23 c24 ?_
    refine zA_push rfl rfl zkk5 ?_
    refine zA_aldn rfl rfl rfl ?_
    refine zA_gf0 rfl rfl (Or.inl rfl) e27 c28 ?_
    refine zA_st (st' := [zI ((1 : Int32) <<< ((zi h p25 i26 7) &&& 31)), zI (zi h p21 i22 6)]) rfl rfl rfl rfl ?_
    refine zA_st (st' := [zI ((zi h p21 i22 6) &&& ((1 : Int32) <<< ((zi h p25 i26 7) &&& 31)))]) rfl rfl rfl rfl ?_
    rcases zite_e H with ⟨c30, H⟩ | ⟨c30, H⟩
    · refine zA_brF' (c := ((zi h p21 i22 6) &&& ((1 : Int32) <<< ((zi h p25 i26 7) &&& 31))) = 0) rfl rfl rfl c30 ?_
      refine zA_push rfl rfl zkk5 ?_
      cases H
      exact zA_ret rfl rfl
    · refine zA_brT' (c := ((zi h p21 i22 6) &&& ((1 : Int32) <<< ((zi h p25 i26 7) &&& 31))) = 0) rfl rfl rfl c30 ?_
      refine zA_aldn rfl rfl rfl ?_
      refine zA_gf0 rfl rfl (Or.inl rfl) e27 c28 ?_
      refine zA_push rfl rfl zkk5 ?_
      refine zA_aldn rfl rfl rfl ?_
      refine zA_gf0 rfl rfl (Or.inl rfl) e23 c24 ?_
      refine zA_st (st' := [zI ((1 : Int32) <<< ((zi h p21 i22 7) &&& 31)), zI (zi h p25 i26 6)]) rfl rfl rfl rfl ?_
      refine zA_st (st' := [zI ((zi h p25 i26 6) &&& ((1 : Int32) <<< ((zi h p21 i22 7) &&& 31)))]) rfl rfl rfl rfl ?_
      rcases zite_e H with ⟨c31, H⟩ | ⟨c31, H⟩
      · refine zA_brF' (c := ((zi h p25 i26 6) &&& ((1 : Int32) <<< ((zi h p21 i22 7) &&& 31))) = 0) rfl rfl rfl c31 ?_
        refine zA_push rfl rfl zkk23 ?_
        refine zA_go rfl rfl ?_
        refine zA_tr (L := [none, none]) rfl rfl ?_
        cases H
        exact zA_ret rfl rfl
      · refine zA_brT' (c := ((zi h p25 i26 6) &&& ((1 : Int32) <<< ((zi h p21 i22 7) &&& 31))) = 0) rfl rfl rfl c31 ?_
        refine zA_tr (L := [none, none]) rfl rfl ?_
        refine zA_push rfl rfl zkk7 ?_
        cases H
        exact zA_ret rfl rfl
  · refine zA_brT' (c := (zi h p21 i22 1) = (zi h p25 i26 1)) rfl rfl rfl c29 ?_
    refine zA_aldn rfl rfl rfl ?_
    refine zA_gf0 rfl rfl (Or.inl rfl) e23 c24 ?_
    refine zA_aldn rfl rfl rfl ?_
    refine zA_gf0 rfl rfl (Or.inl rfl) e27 c28 ?_
    rcases zite_e H with ⟨c32, H⟩ | ⟨c32, H⟩
    · refine zA_brF' (c := (zi h p21 i22 5) = (zi h p25 i26 1)) rfl rfl rfl c32 ?_
      refine zA_aldn rfl rfl rfl ?_
      refine zA_gf0 rfl rfl (Or.inl rfl) e23 c24 ?_
      refine zA_aldn rfl rfl rfl ?_
      refine zA_gf0 rfl rfl (Or.inl rfl) e27 c28 ?_
      refine zA_push rfl rfl zkk6 ?_
      refine zA_st (st' := [zI ((zi h p25 i26 3) ^^^ (-1 : Int32)), zI (zi h p21 i22 4)]) rfl rfl rfl rfl ?_
      refine zA_st (st' := [zI ((zi h p21 i22 4) &&& ((zi h p25 i26 3) ^^^ (-1 : Int32)))]) rfl rfl rfl rfl ?_
      rcases zite_e H with ⟨c33, H⟩ | ⟨c33, H⟩
      · refine zA_brT (c := ((zi h p21 i22 4) &&& ((zi h p25 i26 3) ^^^ (-1 : Int32))) = 0) rfl rfl rfl c33 ?_
        exact zA_tr (L := [some (zrv x0), some (zrv x1)]) rfl rfl (zmS1_42 _ _ _ _ _ H)
      · refine zA_brF (c := ((zi h p21 i22 4) &&& ((zi h p25 i26 3) ^^^ (-1 : Int32))) = 0) rfl rfl rfl c33 ?_
        refine zA_push rfl rfl zkk3 ?_
        cases H
        exact zA_ret rfl rfl
    · refine zA_brT' (c := (zi h p21 i22 5) = (zi h p25 i26 1)) rfl rfl rfl c32 ?_
      exact zA_tr (L := [some (zrv x0), some (zrv x1)]) rfl rfl (zmS1_42 _ _ _ _ _ H)
theorem zmE1 (x0 : zq) (x1 : zq) : zpad (zPr.2.1 1).1 (zil [zrv x0, zrv x1]) = [some (zrv x0), some (zrv x1)] := by
  simp only [zil_A, zil_I, zil_F, zil_D, zil_N]
  rfl
-- 42: ReleaseHouse.forbids(II)I
def zm42 (x0 : zq) (x1 : Int32) (x2 : Int32) (h : zH) : zRs Int32 :=
  zob 11 x0 fun p21 i22 =>
  zlz (zr h p21 i22 0) h fun v30 =>
  zb (zm130 x1 v30 h) fun _ h32 =>
  zlz (zr h32 p21 i22 0) h32 fun v38 =>
  zb (zm130 x2 v38 h32) fun _ h40 =>
  zlg (zr h40 p21 i22 0) x1 h40 fun v47 =>
  zob 0 v47 fun p49 i50 =>
  zlg (zr h40 p21 i22 0) x2 h40 fun v59 =>
  zob 0 v59 fun p61 i62 =>
  zb (zm1 v47 v59 h40) fun x66 h65 =>
  some (.inl x66, h65)
theorem zmS42 {x0 : zq} {x1 : Int32} {x2 : Int32} {h : zH} {r : Int32 ⊕ Nat} {h' : zH} (H : zm42 x0 x1 x2 h = some (r, h')) : zAt 42 0 [some (zrv x0), some (zI x1), some (zI x2)] [] h (zoI r) h' := by
  unfold zm42 at H
  refine zA_ldn rfl rfl rfl ?_
  refine zA_aldn rfl rfl rfl ?_
  obtain ⟨p21, i22, e23, c24, H⟩ := zob_e H
  refine zA_gf3 rfl rfl e23 c24 ?_
  obtain ⟨p25, i26, v30, e27, c28, c29, e31, H⟩ := zlz_e H
  refine zA_l2 rfl rfl rfl e27 c28 c29 e31 ?_
  rcases zb_e H with ⟨u68, h32, C, H⟩ | ⟨E, h32, C, H⟩
  · refine zA_callU (as := [zI x1, zI v30]) (st' := []) rfl rfl rfl rfl rfl (zmE130 _ _) rfl (zmS130 C) ?_
    refine zA_ldn rfl rfl rfl ?_
    refine zA_aldn rfl rfl rfl ?_
    refine zA_gf3 rfl rfl e23 c24 ?_
    obtain ⟨p33, i34, v38, e35, c36, c37, e39, H⟩ := zlz_e H
    refine zA_l2 rfl rfl rfl e35 c36 c37 e39 ?_
    rcases zb_e H with ⟨u67, h40, C, H⟩ | ⟨E, h40, C, H⟩
    · refine zA_callU (as := [zI x2, zI v38]) (st' := []) rfl rfl rfl rfl rfl (zmE130 _ _) rfl (zmS130 C) ?_
      refine zA_aldn rfl rfl rfl ?_
      refine zA_gf3 rfl rfl e23 c24 ?_
      refine zA_ldn rfl rfl rfl ?_
      obtain ⟨p41, i42, v47, e43, c44, c45, c46, e48, H⟩ := zlg_e H
      refine zA_l3 rfl rfl rfl e43 c44 c45 c46 e48 ?_
      obtain ⟨p49, i50, e51, c52, H⟩ := zob_e H
      refine zA_cast rfl rfl e51 c52 ?_
      refine zA_aldn rfl rfl rfl ?_
      refine zA_gf3 rfl rfl e23 c24 ?_
      refine zA_ldn rfl rfl rfl ?_
      obtain ⟨p53, i54, v59, e55, c56, c57, c58, e60, H⟩ := zlg_e H
      refine zA_l3 rfl rfl rfl e55 c56 c57 c58 e60 ?_
      obtain ⟨p61, i62, e63, c64, H⟩ := zob_e H
      refine zA_cast rfl rfl e63 c64 ?_
      rcases zb_e H with ⟨x66, h65, C, H⟩ | ⟨E, h65, C, H⟩
      · refine zA_callV (as := [zrv v47, zrv v59]) (st' := []) rfl rfl rfl (zrcv_Q e51 c52) rfl (zmE1 _ _) rfl (zmS1 C) ?_
        cases H
        exact zA_ret rfl rfl
      · cases H
        exact zA_callX (as := [zrv v47, zrv v59]) (st' := []) rfl rfl (zrcv_Q e51 c52) rfl (zmE1 _ _) rfl rfl rfl (zmS1 C)
    · cases H
      exact zA_callX (as := [zI x2, zI v38]) (st' := []) rfl rfl rfl rfl (zmE130 _ _) rfl rfl rfl (zmS130 C)
  · cases H
    exact zA_callX (as := [zI x1, zI v30]) (st' := []) rfl rfl rfl rfl (zmE130 _ _) rfl rfl rfl (zmS130 C)
theorem zmE42 (x0 : zq) (x1 : Int32) (x2 : Int32) : zpad (zPr.2.1 42).1 (zil [zrv x0, zI x1, zI x2]) = [some (zrv x0), some (zI x1), some (zI x2)] := by
  simp only [zil_A, zil_I, zil_F, zil_D, zil_N]
  rfl
-- 242: ReleaseHouseLaw.forbids(LReleaseHouse;II[J)I
def zm242 (x0 : zq) (x1 : Int32) (x2 : Int32) (x3 : zq) (h : zH) : zRs Int32 :=
  zob 11 x0 fun p21 i22 =>
  zbH [(0, 8, 2, 1)] 5 (zm42 x0 x1 x2 h) fun x26 h25 =>
  zar 3 x3 (0 : Int32) h25 fun p27 i28 j29 =>
  zlet (zsl h25 p27 i28 j29 (x26.toInt64)) fun h34 =>
  some (.inl (0 : Int32), h34)
theorem zmS242 {x0 : zq} {x1 : Int32} {x2 : Int32} {x3 : zq} {h : zH} {r : Int32 ⊕ Nat} {h' : zH} (H : zm242 x0 x1 x2 x3 h = some (r, h')) : zAt 242 0 [some (zrv x0), some (zI x1), some (zI x2), some (zrv x3), none] [] h (zoI r) h' := by
  unfold zm242 at H
  refine zA_aldn rfl rfl rfl ?_
  refine zA_push rfl rfl zkk7 ?_
  refine zA_aldn rfl rfl rfl ?_
  refine zA_ldn rfl rfl rfl ?_
  refine zA_ldn rfl rfl rfl ?_
  obtain ⟨p21, i22, e23, c24, H⟩ := zob_e H
  rcases zbH_e H with ⟨x26, h25, C, H⟩ | ⟨E, h25, c36, C, hc, H⟩
  · refine zA_callV (as := [zrv x0, zI x1, zI x2]) (st' := [zI (0 : Int32), zrv x3]) rfl rfl rfl (zrcv_Q e23 c24) rfl (zmE42 _ _ _) rfl (zmS42 C) ?_
    refine zA_st (st' := [zJ (x26.toInt64), zI (0 : Int32), zrv x3]) rfl rfl rfl rfl ?_
    obtain ⟨p27, i28, j29, e30, c31, c32, e33, H⟩ := zar_e H
    obtain ⟨h34, e35, H⟩ := zlet_e H
    refine zA_las rfl rfl e30 c31 c32 e33 e35 ?_
    refine zA_go rfl rfl ?_
    refine zA_tr (L := [none, none, none, none, none]) rfl rfl ?_
    refine zA_push rfl rfl zkk7 ?_
    cases H
    exact zA_ret rfl rfl
  · cases H
    exact zA_callH (as := [zrv x0, zI x1, zI x2]) (st' := [zI (0 : Int32), zrv x3]) rfl rfl (zrcv_Q e23 c24) rfl (zmE42 _ _ _) rfl rfl rfl (List.cons_ne_nil _ _) hc (zmS42 C)
theorem zmE242 (x0 : zq) (x1 : Int32) (x2 : Int32) (x3 : zq) : zpad (zPr.2.1 242).1 (zil [zrv x0, zI x1, zI x2, zrv x3]) = [some (zrv x0), some (zI x1), some (zI x2), some (zrv x3), none] := by
  simp only [zil_A, zil_I, zil_F, zil_D, zil_N]
  rfl
-- 142: ReleaseHouseModel.isArtefact(I)Z
def zm142 (x0 : zq) (x1 : Int32) (h : zH) : zRs Int32 :=
  zob 12 x0 fun p21 i22 =>
  zb (zm139 x1 (0 : Int32) ((zi h p21 i22 2) - (1 : Int32)) h) fun x26 h25 =>
  zif (x26 = 0 ∨ x26 = 1) <|
  some (.inl x26, h25)
theorem zmS142 {x0 : zq} {x1 : Int32} {h : zH} {r : Int32 ⊕ Nat} {h' : zH} (H : zm142 x0 x1 h = some (r, h')) : zAt 142 0 [some (zrv x0), some (zI x1)] [] h (zoI r) h' := by
  unfold zm142 at H
  refine zA_ldn rfl rfl rfl ?_
  refine zA_push rfl rfl zkk7 ?_
  refine zA_aldn rfl rfl rfl ?_
  obtain ⟨p21, i22, e23, c24, H⟩ := zob_e H
  refine zA_gf0 rfl rfl (Or.inl rfl) e23 c24 ?_
  refine zA_push rfl rfl zkk5 ?_
  refine zA_st (st' := [zI ((zi h p21 i22 2) - (1 : Int32)), zI (0 : Int32), zI x1]) rfl rfl rfl rfl ?_
  rcases zb_e H with ⟨x26, h25, C, H⟩ | ⟨E, h25, C, H⟩
  · refine zA_callV (as := [zI x1, zI (0 : Int32), zI ((zi h p21 i22 2) - (1 : Int32))]) (st' := []) rfl rfl rfl rfl rfl (zmE139 _ _ _) rfl (zmS139 C) ?_
    obtain ⟨c27, H⟩ := zif_e H
    cases H
    exact zA_ret rfl (zret_Z c27)
  · cases H
    exact zA_callX (as := [zI x1, zI (0 : Int32), zI ((zi h p21 i22 2) - (1 : Int32))]) (st' := []) rfl rfl rfl rfl (zmE139 _ _ _) rfl rfl rfl (zmS139 C)
theorem zmE142 (x0 : zq) (x1 : Int32) : zpad (zPr.2.1 142).1 (zil [zrv x0, zI x1]) = [some (zrv x0), some (zI x1)] := by
  simp only [zil_A, zil_I, zil_F, zil_D, zil_N]
  rfl
def zm146_63 (x0 : zq) (x1 : Int32) (x2 : Int32) (s0 : Int32) (h : zH) : zRs Int32 :=
  if s0 = 0 then
    zob 12 x0 fun p22 i23 =>
    zri (zr h p22 i23 7) x2 h fun v33 =>
    zri (zr h p22 i23 3) x1 h fun v42 =>
    if v33 = v42 then
      zri (zr h p22 i23 6) x2 h fun v52 =>
      zri (zr h p22 i23 5) x1 h fun v61 =>
      if (v52 &&& (v61 ^^^ (-1 : Int32))) = 0 then
        some (.inl (0 : Int32), h)
      else
        some (.inl (4 : Int32), h)
    else
      some (.inl (0 : Int32), h)
  else
    some (.inl (3 : Int32), h)
theorem zmS146_63 : ∀ (x0 : zq) (x1 : Int32) (x2 : Int32) (s0 : Int32) (h : zH) (r : Int32 ⊕ Nat) (h' : zH), zm146_63 x0 x1 x2 s0 h = some (r, h') → zAt 146 63 [some (zrv x0), some (zI x1), some (zI x2), none] [zI s0] h (zoI r) h' := by
  intro x0 x1 x2 s0 h r h' H
  unfold zm146_63 at H
  refine zA_istn2 rfl rfl rfl (zset1 (L' := [some (zrv x0), some (zI x1), some (zI x2), some (zI s0)]) rfl rfl (zpcV rfl rfl)) ?_
  refine zA_ldn rfl rfl rfl ?_
  rcases zite_e H with ⟨c21, H⟩ | ⟨c21, H⟩
  · refine zA_brT (c := s0 = 0) rfl rfl rfl c21 ?_
    refine zA_tr (L := [some (zrv x0), some (zI x1), some (zI x2), none]) rfl rfl ?_
    refine zA_aldn rfl rfl rfl ?_
    obtain ⟨p22, i23, e24, c25, H⟩ := zob_e H
    refine zA_gf3 rfl rfl e24 c25 ?_
    refine zA_ldn rfl rfl rfl ?_
    obtain ⟨p26, i27, j28, v33, e29, c30, c31, e32, e34, H⟩ := zri_e H
    refine zA_ial rfl rfl e29 c30 c31 e32 e34 ?_
    refine zA_aldn rfl rfl rfl ?_
    refine zA_gf3 rfl rfl e24 c25 ?_
    refine zA_ldn rfl rfl rfl ?_
    obtain ⟨p35, i36, j37, v42, e38, c39, c40, e41, e43, H⟩ := zri_e H
    refine zA_ial rfl rfl e38 c39 c40 e41 e43 ?_
    rcases zite_e H with ⟨c44, H⟩ | ⟨c44, H⟩
    · refine zA_brF' (c := v33 = v42) rfl rfl rfl c44 ?_
      refine zA_aldn rfl rfl rfl ?_
      refine zA_gf3 rfl rfl e24 c25 ?_
      refine zA_ldn rfl rfl rfl ?_
      obtain ⟨p45, i46, j47, v52, e48, c49, c50, e51, e53, H⟩ := zri_e H
      refine zA_ial rfl rfl e48 c49 c50 e51 e53 ?_
      refine zA_aldn rfl rfl rfl ?_
      refine zA_gf3 rfl rfl e24 c25 ?_
      refine zA_ldn rfl rfl rfl ?_
      obtain ⟨p54, i55, j56, v61, e57, c58, c59, e60, e62, H⟩ := zri_e H
      refine zA_ial rfl rfl e57 c58 c59 e60 e62 ?_
      refine zA_push rfl rfl zkk6 ?_
      refine zA_st (st' := [zI (v61 ^^^ (-1 : Int32)), zI v52]) rfl rfl rfl rfl ?_
      refine zA_st (st' := [zI (v52 &&& (v61 ^^^ (-1 : Int32)))]) rfl rfl rfl rfl ?_
      rcases zite_e H with ⟨c63, H⟩ | ⟨c63, H⟩
      · refine zA_brT (c := (v52 &&& (v61 ^^^ (-1 : Int32))) = 0) rfl rfl rfl c63 ?_
        refine zA_tr (L := [none, none, none, none]) rfl rfl ?_
        refine zA_push rfl rfl zkk7 ?_
        cases H
        exact zA_ret rfl rfl
      · refine zA_brF (c := (v52 &&& (v61 ^^^ (-1 : Int32))) = 0) rfl rfl rfl c63 ?_
        refine zA_push rfl rfl zkk9 ?_
        refine zA_go rfl rfl ?_
        refine zA_tr (L := [none, none, none, none]) rfl rfl ?_
        cases H
        exact zA_ret rfl rfl
    · refine zA_brT' (c := v33 = v42) rfl rfl rfl c44 ?_
      refine zA_tr (L := [none, none, none, none]) rfl rfl ?_
      refine zA_push rfl rfl zkk7 ?_
      cases H
      exact zA_ret rfl rfl
  · refine zA_brF (c := s0 = 0) rfl rfl rfl c21 ?_
    refine zA_push rfl rfl zkk3 ?_
    refine zA_go rfl rfl ?_
    refine zA_tr (L := [none, none, none, none]) rfl rfl ?_
    cases H
    exact zA_ret rfl rfl
-- 146: ReleaseHouseModel.reasonOf(II)I
def zm146 (x0 : zq) (x1 : Int32) (x2 : Int32) (h : zH) : zRs Int32 :=
  zob 12 x0 fun p21 i22 =>
  zri (zr h p21 i22 3) x1 h fun v32 =>
  zri (zr h p21 i22 3) x2 h fun v41 =>
  if v32 = v41 then
    zri (zr h p21 i22 8) x1 h fun v51 =>
    zri (zr h p21 i22 9) x2 h fun v60 =>
    if ((v51 >>> (v60 &&& 31)) &&& (1 : Int32)) = 0 then
      some (.inl (1 : Int32), h)
    else
      zri (zr h p21 i22 8) x2 h fun v70 =>
      zri (zr h p21 i22 9) x1 h fun v79 =>
      if ((v70 >>> (v79 &&& 31)) &&& (1 : Int32)) = 0 then
        some (.inl (2 : Int32), h)
      else
        some (.inl (0 : Int32), h)
  else
    zri (zr h p21 i22 7) x1 h fun v89 =>
    zri (zr h p21 i22 3) x2 h fun v98 =>
    if v89 = v98 then
      zri (zr h p21 i22 6) x1 h fun v108 =>
      zri (zr h p21 i22 5) x2 h fun v117 =>
      if (v108 &&& (v117 ^^^ (-1 : Int32))) = 0 then
        zm146_63 x0 x1 x2 (0 : Int32) h
      else
        zm146_63 x0 x1 x2 (1 : Int32) h
    else
      zm146_63 x0 x1 x2 (0 : Int32) h
theorem zmS146 {x0 : zq} {x1 : Int32} {x2 : Int32} {h : zH} {r : Int32 ⊕ Nat} {h' : zH} (H : zm146 x0 x1 x2 h = some (r, h')) : zAt 146 0 [some (zrv x0), some (zI x1), some (zI x2), none] [] h (zoI r) h' := by
  unfold zm146 at H
  refine zA_aldn rfl rfl rfl ?_
  obtain ⟨p21, i22, e23, c24, H⟩ := zob_e H
  refine zA_gf3 rfl rfl e23 c24 ?_
  refine zA_ldn rfl rfl rfl ?_
  obtain ⟨p25, i26, j27, v32, e28, c29, c30, e31, e33, H⟩ := zri_e H
  refine zA_ial rfl rfl e28 c29 c30 e31 e33 ?_
  refine zA_aldn rfl rfl rfl ?_
  refine zA_gf3 rfl rfl e23 c24 ?_
  refine zA_ldn rfl rfl rfl ?_
  obtain ⟨p34, i35, j36, v41, e37, c38, c39, e40, e42, H⟩ := zri_e H
  refine zA_ial rfl rfl e37 c38 c39 e40 e42 ?_
  rcases zite_e H with ⟨c43, H⟩ | ⟨c43, H⟩
  · refine zA_brF' (c := v32 = v41) rfl rfl rfl c43 ?_
    refine zA_aldn rfl rfl rfl ?_
    refine zA_gf3 rfl rfl e23 c24 ?_
    refine zA_ldn rfl rfl rfl ?_
    obtain ⟨p44, i45, j46, v51, e47, c48, c49, e50, e52, H⟩ := zri_e H
    refine zA_ial rfl rfl e47 c48 c49 e50 e52 ?_
    refine zA_aldn rfl rfl rfl ?_
    refine zA_gf3 rfl rfl e23 c24 ?_
    refine zA_ldn rfl rfl rfl ?_
    obtain ⟨p53, i54, j55, v60, e56, c57, c58, e59, e61, H⟩ := zri_e H
    refine zA_ial rfl rfl e56 c57 c58 e59 e61 ?_
    refine zA_st (st' := [zI (v51 >>> (v60 &&& 31))]) rfl rfl rfl rfl ?_
    refine zA_push rfl rfl zkk5 ?_
    refine zA_st (st' := [zI ((v51 >>> (v60 &&& 31)) &&& (1 : Int32))]) rfl rfl rfl rfl ?_
    rcases zite_e H with ⟨c62, H⟩ | ⟨c62, H⟩
    · refine zA_brF' (c := ((v51 >>> (v60 &&& 31)) &&& (1 : Int32)) = 0) rfl rfl rfl c62 ?_
      refine zA_push rfl rfl zkk5 ?_
      refine zA_go rfl rfl ?_
      refine zA_tr (L := [none, none, none, none]) rfl rfl ?_
      cases H
      exact zA_ret rfl rfl
    · refine zA_brT' (c := ((v51 >>> (v60 &&& 31)) &&& (1 : Int32)) = 0) rfl rfl rfl c62 ?_
      refine zA_aldn rfl rfl rfl ?_
      refine zA_gf3 rfl rfl e23 c24 ?_
      refine zA_ldn rfl rfl rfl ?_
      obtain ⟨p63, i64, j65, v70, e66, c67, c68, e69, e71, H⟩ := zri_e H
      refine zA_ial rfl rfl e66 c67 c68 e69 e71 ?_
      refine zA_aldn rfl rfl rfl ?_
      refine zA_gf3 rfl rfl e23 c24 ?_
      refine zA_ldn rfl rfl rfl ?_
      obtain ⟨p72, i73, j74, v79, e75, c76, c77, e78, e80, H⟩ := zri_e H
      refine zA_ial rfl rfl e75 c76 c77 e78 e80 ?_
      refine zA_st (st' := [zI (v70 >>> (v79 &&& 31))]) rfl rfl rfl rfl ?_
      refine zA_push rfl rfl zkk5 ?_
      refine zA_st (st' := [zI ((v70 >>> (v79 &&& 31)) &&& (1 : Int32))]) rfl rfl rfl rfl ?_
      rcases zite_e H with ⟨c81, H⟩ | ⟨c81, H⟩
      · refine zA_brF' (c := ((v70 >>> (v79 &&& 31)) &&& (1 : Int32)) = 0) rfl rfl rfl c81 ?_
        refine zA_push rfl rfl zkk23 ?_
        refine zA_go rfl rfl ?_
        refine zA_tr (L := [none, none, none, none]) rfl rfl ?_
        cases H
        exact zA_ret rfl rfl
      · refine zA_brT' (c := ((v70 >>> (v79 &&& 31)) &&& (1 : Int32)) = 0) rfl rfl rfl c81 ?_
        refine zA_tr (L := [none, none, none, none]) rfl rfl ?_
        refine zA_push rfl rfl zkk7 ?_
        cases H
        exact zA_ret rfl rfl
  · refine zA_brT' (c := v32 = v41) rfl rfl rfl c43 ?_
    refine zA_aldn rfl rfl rfl ?_
    refine zA_gf3 rfl rfl e23 c24 ?_
    refine zA_ldn rfl rfl rfl ?_
    obtain ⟨p82, i83, j84, v89, e85, c86, c87, e88, e90, H⟩ := zri_e H
    refine zA_ial rfl rfl e85 c86 c87 e88 e90 ?_
    refine zA_aldn rfl rfl rfl ?_
    refine zA_gf3 rfl rfl e23 c24 ?_
    refine zA_ldn rfl rfl rfl ?_
    obtain ⟨p91, i92, j93, v98, e94, c95, c96, e97, e99, H⟩ := zri_e H
    refine zA_ial rfl rfl e94 c95 c96 e97 e99 ?_
    rcases zite_e H with ⟨c100, H⟩ | ⟨c100, H⟩
    · refine zA_brF' (c := v89 = v98) rfl rfl rfl c100 ?_
      refine zA_aldn rfl rfl rfl ?_
      refine zA_gf3 rfl rfl e23 c24 ?_
      refine zA_ldn rfl rfl rfl ?_
      obtain ⟨p101, i102, j103, v108, e104, c105, c106, e107, e109, H⟩ := zri_e H
      refine zA_ial rfl rfl e104 c105 c106 e107 e109 ?_
      refine zA_aldn rfl rfl rfl ?_
      refine zA_gf3 rfl rfl e23 c24 ?_
      refine zA_ldn rfl rfl rfl ?_
      obtain ⟨p110, i111, j112, v117, e113, c114, c115, e116, e118, H⟩ := zri_e H
      refine zA_ial rfl rfl e113 c114 c115 e116 e118 ?_
      refine zA_push rfl rfl zkk6 ?_
      refine zA_st (st' := [zI (v117 ^^^ (-1 : Int32)), zI v108]) rfl rfl rfl rfl ?_
      refine zA_st (st' := [zI (v108 &&& (v117 ^^^ (-1 : Int32)))]) rfl rfl rfl rfl ?_
      rcases zite_e H with ⟨c119, H⟩ | ⟨c119, H⟩
      · refine zA_brT (c := (v108 &&& (v117 ^^^ (-1 : Int32))) = 0) rfl rfl rfl c119 ?_
        refine zA_push rfl rfl zkk7 ?_
        exact zA_tr (L := [some (zrv x0), some (zI x1), some (zI x2), none]) rfl rfl (zmS146_63 _ _ _ _ _ _ _ H)
      · refine zA_brF (c := (v108 &&& (v117 ^^^ (-1 : Int32))) = 0) rfl rfl rfl c119 ?_
        refine zA_push rfl rfl zkk5 ?_
        refine zA_go rfl rfl ?_
        exact zA_tr (L := [some (zrv x0), some (zI x1), some (zI x2), none]) rfl rfl (zmS146_63 _ _ _ _ _ _ _ H)
    · refine zA_brT' (c := v89 = v98) rfl rfl rfl c100 ?_
      refine zA_push rfl rfl zkk7 ?_
      exact zA_tr (L := [some (zrv x0), some (zI x1), some (zI x2), none]) rfl rfl (zmS146_63 _ _ _ _ _ _ _ H)
theorem zmE146 (x0 : zq) (x1 : Int32) (x2 : Int32) : zpad (zPr.2.1 146).1 (zil [zrv x0, zI x1, zI x2]) = [some (zrv x0), some (zI x1), some (zI x2), none] := by
  simp only [zil_A, zil_I, zil_F, zil_D, zil_N]
  rfl
def zm147_12 (x0 : zq) (x1 : Int32) (x2 : Int32) (s0 : zq) (s1 : Int32) (h : zH) : zRs Int32 :=
  zob 12 s0 fun p21 i22 =>
  zlet (zsi h p21 i22 0 s1) fun h25 =>
  zob 12 x0 fun p27 i28 =>
  if (zi h25 p27 i28 0) ≤ 0 then
    zb (zm146 x0 x1 x2 h25) fun x33 h32 =>
    some (.inl x33, h32)
  else
    some (.inl (0 : Int32), h25)
theorem zmS147_12 : ∀ (x0 : zq) (x1 : Int32) (x2 : Int32) (s0 : zq) (s1 : Int32) (h : zH) (r : Int32 ⊕ Nat) (h' : zH), zm147_12 x0 x1 x2 s0 s1 h = some (r, h') → zAt 147 12 [some (zrv x0), some (zI x1), some (zI x2)] [zI s1, zrv s0] h (zoI r) h' := by
  intro x0 x1 x2 s0 s1 h r h' H
  unfold zm147_12 at H
  obtain ⟨p21, i22, e23, c24, H⟩ := zob_e H
  obtain ⟨h25, e26, H⟩ := zlet_e H
  refine zA_pf0 rfl rfl e23 c24 e26 ?_
  refine zA_aldn rfl rfl rfl ?_
  obtain ⟨p27, i28, e29, c30, H⟩ := zob_e H
  refine zA_gf0 rfl rfl (Or.inl rfl) e29 c30 ?_
  rcases zite_e H with ⟨c31, H⟩ | ⟨c31, H⟩
  · refine zA_brT (c := (zi h25 p27 i28 0) ≤ 0) rfl rfl rfl c31 ?_
    refine zA_aldn rfl rfl rfl ?_
    refine zA_ldn rfl rfl rfl ?_
    refine zA_ldn rfl rfl rfl ?_
    rcases zb_e H with ⟨x33, h32, C, H⟩ | ⟨E, h32, C, H⟩
    · refine zA_callV (as := [zrv x0, zI x1, zI x2]) (st' := []) rfl rfl rfl (zrcv_Q e29 c30) rfl (zmE146 _ _ _) rfl (zmS146 C) ?_
      refine zA_tr (L := [none, none, none]) rfl rfl ?_
      cases H
      exact zA_ret rfl rfl
    · cases H
      exact zA_callX (as := [zrv x0, zI x1, zI x2]) (st' := []) rfl rfl (zrcv_Q e29 c30) rfl (zmE146 _ _ _) rfl rfl rfl (zmS146 C)
  · refine zA_brF (c := (zi h25 p27 i28 0) ≤ 0) rfl rfl rfl c31 ?_
    refine zA_push rfl rfl zkk7 ?_
    refine zA_go rfl rfl ?_
    refine zA_tr (L := [none, none, none]) rfl rfl ?_
    cases H
    exact zA_ret rfl rfl
-- 147: ReleaseHouseModel.forbids(II)I
def zm147 (x0 : zq) (x1 : Int32) (x2 : Int32) (h : zH) : zRs Int32 :=
  zob 12 x0 fun p21 i22 =>
  zb (zm142 x0 x1 h) fun x26 h25 =>
  if x26 = 0 then
    zm147_12 x0 x1 x2 x0 (1 : Int32) h25
  else
    zb (zm142 x0 x2 h25) fun x29 h28 =>
    if x29 = 0 then
      zm147_12 x0 x1 x2 x0 (1 : Int32) h28
    else
      zm147_12 x0 x1 x2 x0 (0 : Int32) h28
theorem zmS147 {x0 : zq} {x1 : Int32} {x2 : Int32} {h : zH} {r : Int32 ⊕ Nat} {h' : zH} (H : zm147 x0 x1 x2 h = some (r, h')) : zAt 147 0 [some (zrv x0), some (zI x1), some (zI x2)] [] h (zoI r) h' := by
  unfold zm147 at H
  refine zA_aldn rfl rfl rfl ?_
  refine zA_aldn rfl rfl rfl ?_
  refine zA_ldn rfl rfl rfl ?_
  obtain ⟨p21, i22, e23, c24, H⟩ := zob_e H
  rcases zb_e H with ⟨x26, h25, C, H⟩ | ⟨E, h25, C, H⟩
  · refine zA_callV (as := [zrv x0, zI x1]) (st' := [zrv x0]) rfl rfl rfl (zrcv_Q e23 c24) rfl (zmE142 _ _) rfl (zmS142 C) ?_
    rcases zite_e H with ⟨c27, H⟩ | ⟨c27, H⟩
    · refine zA_brT (c := x26 = 0) rfl rfl rfl c27 ?_
      refine zA_push rfl rfl zkk5 ?_
      exact zA_tr (L := [some (zrv x0), some (zI x1), some (zI x2)]) rfl rfl (zmS147_12 _ _ _ _ _ _ _ _ H)
    · refine zA_brF (c := x26 = 0) rfl rfl rfl c27 ?_
      refine zA_aldn rfl rfl rfl ?_
      refine zA_ldn rfl rfl rfl ?_
      rcases zb_e H with ⟨x29, h28, C, H⟩ | ⟨E, h28, C, H⟩
      · refine zA_callV (as := [zrv x0, zI x2]) (st' := [zrv x0]) rfl rfl rfl (zrcv_Q e23 c24) rfl (zmE142 _ _) rfl (zmS142 C) ?_
        rcases zite_e H with ⟨c30, H⟩ | ⟨c30, H⟩
        · refine zA_brT (c := x29 = 0) rfl rfl rfl c30 ?_
          refine zA_push rfl rfl zkk5 ?_
          exact zA_tr (L := [some (zrv x0), some (zI x1), some (zI x2)]) rfl rfl (zmS147_12 _ _ _ _ _ _ _ _ H)
        · refine zA_brF (c := x29 = 0) rfl rfl rfl c30 ?_
          refine zA_push rfl rfl zkk7 ?_
          refine zA_go rfl rfl ?_
          exact zA_tr (L := [some (zrv x0), some (zI x1), some (zI x2)]) rfl rfl (zmS147_12 _ _ _ _ _ _ _ _ H)
      · cases H
        exact zA_callX (as := [zrv x0, zI x2]) (st' := [zrv x0]) rfl rfl (zrcv_Q e23 c24) rfl (zmE142 _ _) rfl rfl rfl (zmS142 C)
  · cases H
    exact zA_callX (as := [zrv x0, zI x1]) (st' := [zrv x0]) rfl rfl (zrcv_Q e23 c24) rfl (zmE142 _ _) rfl rfl rfl (zmS142 C)
theorem zmE147 (x0 : zq) (x1 : Int32) (x2 : Int32) : zpad (zPr.2.1 147).1 (zil [zrv x0, zI x1, zI x2]) = [some (zrv x0), some (zI x1), some (zI x2)] := by
  simp only [zil_A, zil_I, zil_F, zil_D, zil_N]
  rfl
-- 43: ReleaseHouse.isLive(I)Z
def zm43 (x0 : zq) (x1 : Int32) (h : zH) : zRs Int32 :=
  zob 11 x0 fun p21 i22 =>
  zlz (zr h p21 i22 0) h fun v30 =>
  zb (zm130 x1 v30 h) fun _ h32 =>
  zlg (zr h32 p21 i22 0) x1 h32 fun v39 =>
  zob 0 v39 fun p41 i42 =>
  if (zi h32 p41 i42 10) ≤ 0 then
    some (.inl (0 : Int32), h32)
  else
    some (.inl (1 : Int32), h32)
theorem zmS43 {x0 : zq} {x1 : Int32} {h : zH} {r : Int32 ⊕ Nat} {h' : zH} (H : zm43 x0 x1 h = some (r, h')) : zAt 43 0 [some (zrv x0), some (zI x1)] [] h (zoI r) h' := by
  unfold zm43 at H
  refine zA_ldn rfl rfl rfl ?_
  refine zA_aldn rfl rfl rfl ?_
  obtain ⟨p21, i22, e23, c24, H⟩ := zob_e H
  refine zA_gf3 rfl rfl e23 c24 ?_
  obtain ⟨p25, i26, v30, e27, c28, c29, e31, H⟩ := zlz_e H
  refine zA_l2 rfl rfl rfl e27 c28 c29 e31 ?_
  rcases zb_e H with ⟨u46, h32, C, H⟩ | ⟨E, h32, C, H⟩
  · refine zA_callU (as := [zI x1, zI v30]) (st' := []) rfl rfl rfl rfl rfl (zmE130 _ _) rfl (zmS130 C) ?_
    refine zA_aldn rfl rfl rfl ?_
    refine zA_gf3 rfl rfl e23 c24 ?_
    refine zA_ldn rfl rfl rfl ?_
    obtain ⟨p33, i34, v39, e35, c36, c37, c38, e40, H⟩ := zlg_e H
    refine zA_l3 rfl rfl rfl e35 c36 c37 c38 e40 ?_
    obtain ⟨p41, i42, e43, c44, H⟩ := zob_e H
    refine zA_cast rfl rfl e43 c44 ?_
    refine zA_gf0 rfl rfl (Or.inl rfl) e43 c44 ?_
    rcases zite_e H with ⟨c45, H⟩ | ⟨c45, H⟩
    · refine zA_brT (c := (zi h32 p41 i42 10) ≤ 0) rfl rfl rfl c45 ?_
      refine zA_tr (L := [none, none]) rfl rfl ?_
      refine zA_push rfl rfl zkk7 ?_
      cases H
      exact zA_ret rfl (zret_Z (by decide))
    · refine zA_brF (c := (zi h32 p41 i42 10) ≤ 0) rfl rfl rfl c45 ?_
      refine zA_push rfl rfl zkk5 ?_
      refine zA_go rfl rfl ?_
      refine zA_tr (L := [none, none]) rfl rfl ?_
      cases H
      exact zA_ret rfl (zret_Z (by decide))
  · cases H
    exact zA_callX (as := [zI x1, zI v30]) (st' := []) rfl rfl rfl rfl (zmE130 _ _) rfl rfl rfl (zmS130 C)
theorem zmE43 (x0 : zq) (x1 : Int32) : zpad (zPr.2.1 43).1 (zil [zrv x0, zI x1]) = [some (zrv x0), some (zI x1)] := by
  simp only [zil_A, zil_I, zil_F, zil_D, zil_N]
  rfl
def zm243_9 (s0 : zq) (s1 : Int32) (s2 : Int64) (h : zH) : zRs Int32 :=
  zar 3 s0 s1 h fun p21 i22 j23 =>
  zlet (zsl h p21 i22 j23 s2) fun h28 =>
  some (.inl (0 : Int32), h28)
theorem zmS243_9 : ∀ (s0 : zq) (s1 : Int32) (s2 : Int64) (h : zH) (r : Int32 ⊕ Nat) (h' : zH), zm243_9 s0 s1 s2 h = some (r, h') → zAt 243 9 [none, none, none, none] [zJ s2, zI s1, zrv s0] h (zoI r) h' := by
  intro s0 s1 s2 h r h' H
  unfold zm243_9 at H
  obtain ⟨p21, i22, j23, e24, c25, c26, e27, H⟩ := zar_e H
  obtain ⟨h28, e29, H⟩ := zlet_e H
  refine zA_las rfl rfl e24 c25 c26 e27 e29 ?_
  refine zA_go rfl rfl ?_
  refine zA_push rfl rfl zkk7 ?_
  cases H
  exact zA_ret rfl rfl
-- 243: ReleaseHouseLaw.isLive(LReleaseHouse;I[J)I
def zm243 (x0 : zq) (x1 : Int32) (x2 : zq) (h : zH) : zRs Int32 :=
  zob 11 x0 fun p21 i22 =>
  zbH [(0, 10, 2, 1)] 4 (zm43 x0 x1 h) fun x26 h25 =>
  if x26 = 0 then
    zm243_9 x2 (0 : Int32) (0 : Int64) h25
  else
    zm243_9 x2 (0 : Int32) (1 : Int64) h25
theorem zmS243 {x0 : zq} {x1 : Int32} {x2 : zq} {h : zH} {r : Int32 ⊕ Nat} {h' : zH} (H : zm243 x0 x1 x2 h = some (r, h')) : zAt 243 0 [some (zrv x0), some (zI x1), some (zrv x2), none] [] h (zoI r) h' := by
  unfold zm243 at H
  refine zA_aldn rfl rfl rfl ?_
  refine zA_push rfl rfl zkk7 ?_
  refine zA_aldn rfl rfl rfl ?_
  refine zA_ldn rfl rfl rfl ?_
  obtain ⟨p21, i22, e23, c24, H⟩ := zob_e H
  rcases zbH_e H with ⟨x26, h25, C, H⟩ | ⟨E, h25, c28, C, hc, H⟩
  · refine zA_callV (as := [zrv x0, zI x1]) (st' := [zI (0 : Int32), zrv x2]) rfl rfl rfl (zrcv_Q e23 c24) rfl (zmE43 _ _) rfl (zmS43 C) ?_
    rcases zite_e H with ⟨c27, H⟩ | ⟨c27, H⟩
    · refine zA_brT (c := x26 = 0) rfl rfl rfl c27 ?_
      refine zA_tr (L := [none, none, none, none]) rfl rfl ?_
      refine zA_push rfl rfl zkk24 ?_
      exact zA_tr (L := [none, none, none, none]) rfl rfl (zmS243_9 _ _ _ _ _ _ H)
    · refine zA_brF (c := x26 = 0) rfl rfl rfl c27 ?_
      refine zA_push rfl rfl zkk25 ?_
      refine zA_go rfl rfl ?_
      exact zA_tr (L := [none, none, none, none]) rfl rfl (zmS243_9 _ _ _ _ _ _ H)
  · cases H
    exact zA_callH (as := [zrv x0, zI x1]) (st' := [zI (0 : Int32), zrv x2]) rfl rfl (zrcv_Q e23 c24) rfl (zmE43 _ _) rfl rfl rfl (List.cons_ne_nil _ _) hc (zmS43 C)
theorem zmE243 (x0 : zq) (x1 : Int32) (x2 : zq) : zpad (zPr.2.1 243).1 (zil [zrv x0, zI x1, zrv x2]) = [some (zrv x0), some (zI x1), some (zrv x2), none] := by
  simp only [zil_A, zil_I, zil_F, zil_D, zil_N]
  rfl
def zm148_40 (k9 : zq → Int32 → Int32 → Int32 → Int32 → Int32 → zH → zRs Int32) (x0 : zq) (x1 : Int32) (x2 : Int32) (x4 : Int32) (x5 : Int32) (s0 : Int32) (h : zH) : zRs Int32 :=
  zlet (x5 + (1 : Int32)) fun x21 =>
  k9 x0 x1 x2 s0 x4 x21 h
theorem zmS148_40 {k9 : zq → Int32 → Int32 → Int32 → Int32 → Int32 → zH → zRs Int32} (hk9 : ∀ (x0 : zq) (x1 : Int32) (x2 : Int32) (x3 : Int32) (x4 : Int32) (x5 : Int32) (h : zH) (r : Int32 ⊕ Nat) (h' : zH), k9 x0 x1 x2 x3 x4 x5 h = some (r, h') → zAt 148 9 [some (zrv x0), some (zI x1), some (zI x2), some (zI x3), some (zI x4), some (zI x5)] [] h (zoI r) h') : ∀ (x0 : zq) (x1 : Int32) (x2 : Int32) (x4 : Int32) (x5 : Int32) (s0 : Int32) (h : zH) (r : Int32 ⊕ Nat) (h' : zH), zm148_40 k9 x0 x1 x2 x4 x5 s0 h = some (r, h') → zAt 148 40 [some (zrv x0), some (zI x1), some (zI x2), none, some (zI x4), some (zI x5)] [zI s0] h (zoI r) h' := by
  intro x0 x1 x2 x4 x5 s0 h r h' H
  unfold zm148_40 at H
  refine zA_istn2 rfl rfl rfl (zset1 (L' := [some (zrv x0), some (zI x1), some (zI x2), some (zI s0), some (zI x4), some (zI x5)]) rfl rfl (zpcV rfl rfl)) ?_
  obtain ⟨x21, e22, H⟩ := zlet_e H
  refine zA_inc rfl rfl rfl (e22.trans (congrArg (_ + ·) zkk8)) (zset1 (L' := [some (zrv x0), some (zI x1), some (zI x2), some (zI s0), some (zI x4), some (zI x21)]) rfl rfl (zpcV rfl rfl)) ?_
  refine zA_go rfl rfl ?_
  exact zA_tr (L := [some (zrv x0), some (zI x1), some (zI x2), some (zI s0), some (zI x4), some (zI x21)]) rfl rfl (hk9 _ _ _ _ _ _ _ _ _ H)
def zm148_27 (k9 : zq → Int32 → Int32 → Int32 → Int32 → Int32 → zH → zRs Int32) (x0 : zq) (x1 : Int32) (x2 : Int32) (x4 : Int32) (x5 : Int32) (h : zH) : zRs Int32 :=
  zob 12 x0 fun p21 i22 =>
  zri (zr h p21 i22 13) (((3 : Int32) * x4) + x5) h fun v32 =>
  if v32 = x1 then
    zm148_40 k9 x0 x1 x2 x4 x5 (1 : Int32) h
  else
    zm148_40 k9 x0 x1 x2 x4 x5 (0 : Int32) h
theorem zmS148_27 {k9 : zq → Int32 → Int32 → Int32 → Int32 → Int32 → zH → zRs Int32} (hk9 : ∀ (x0 : zq) (x1 : Int32) (x2 : Int32) (x3 : Int32) (x4 : Int32) (x5 : Int32) (h : zH) (r : Int32 ⊕ Nat) (h' : zH), k9 x0 x1 x2 x3 x4 x5 h = some (r, h') → zAt 148 9 [some (zrv x0), some (zI x1), some (zI x2), some (zI x3), some (zI x4), some (zI x5)] [] h (zoI r) h') : ∀ (x0 : zq) (x1 : Int32) (x2 : Int32) (x4 : Int32) (x5 : Int32) (h : zH) (r : Int32 ⊕ Nat) (h' : zH), zm148_27 k9 x0 x1 x2 x4 x5 h = some (r, h') → zAt 148 27 [some (zrv x0), some (zI x1), some (zI x2), none, some (zI x4), some (zI x5)] [] h (zoI r) h' := by
  intro x0 x1 x2 x4 x5 h r h' H
  unfold zm148_27 at H
  refine zA_aldn rfl rfl rfl ?_
  obtain ⟨p21, i22, e23, c24, H⟩ := zob_e H
  refine zA_gf3 rfl rfl e23 c24 ?_
  refine zA_push rfl rfl zkk3 ?_
  refine zA_ld rfl rfl rfl ?_
  refine zA_st (st' := [zI ((3 : Int32) * x4), zrv (zr h p21 i22 13)]) rfl rfl rfl rfl ?_
  refine zA_ld rfl rfl rfl ?_
  refine zA_st (st' := [zI (((3 : Int32) * x4) + x5), zrv (zr h p21 i22 13)]) rfl rfl rfl rfl ?_
  obtain ⟨p25, i26, j27, v32, e28, c29, c30, e31, e33, H⟩ := zri_e H
  refine zA_ial rfl rfl e28 c29 c30 e31 e33 ?_
  refine zA_ldn rfl rfl rfl ?_
  rcases zite_e H with ⟨c34, H⟩ | ⟨c34, H⟩
  · refine zA_brF' (c := v32 = x1) rfl rfl rfl c34 ?_
    refine zA_push rfl rfl zkk5 ?_
    refine zA_go rfl rfl ?_
    exact zA_tr (L := [some (zrv x0), some (zI x1), some (zI x2), none, some (zI x4), some (zI x5)]) rfl rfl (zmS148_40 hk9 _ _ _ _ _ _ _ _ _ H)
  · refine zA_brT' (c := v32 = x1) rfl rfl rfl c34 ?_
    refine zA_push rfl rfl zkk7 ?_
    exact zA_tr (L := [some (zrv x0), some (zI x1), some (zI x2), none, some (zI x4), some (zI x5)]) rfl rfl (zmS148_40 hk9 _ _ _ _ _ _ _ _ _ H)
def zm148_9 (k43 : zq → Int32 → Int32 → Int32 → zH → zRs Int32) : Nat → zq → Int32 → Int32 → Int32 → Int32 → Int32 → zH → zRs Int32
  | 0, _, _, _, _, _, _, _ => none
  | n + 1, x0, x1, x2, x3, x4, x5, h =>
    if (3 : Int32) ≤ x5 then
      k43 x0 x1 x3 x4 h
    else
      if x3 = 0 then
        zob 12 x0 fun p23 i24 =>
        zri (zr h p23 i24 12) (((3 : Int32) * x4) + x5) h fun v34 =>
        if v34 = x1 then
          if x5 = x2 then
            zm148_27 (zm148_9 k43 n) x0 x1 x2 x4 x5 h
          else
            zm148_40 (zm148_9 k43 n) x0 x1 x2 x4 x5 (1 : Int32) h
        else
          zm148_27 (zm148_9 k43 n) x0 x1 x2 x4 x5 h
      else
        zm148_40 (zm148_9 k43 n) x0 x1 x2 x4 x5 (1 : Int32) h
theorem zmS148_9 {k43 : zq → Int32 → Int32 → Int32 → zH → zRs Int32} (hk43 : ∀ (x0 : zq) (x1 : Int32) (x3 : Int32) (x4 : Int32) (h : zH) (r : Int32 ⊕ Nat) (h' : zH), k43 x0 x1 x3 x4 h = some (r, h') → zAt 148 43 [some (zrv x0), some (zI x1), none, some (zI x3), some (zI x4), none] [] h (zoI r) h') : ∀ (n : Nat) (x0 : zq) (x1 : Int32) (x2 : Int32) (x3 : Int32) (x4 : Int32) (x5 : Int32) (h : zH) (r : Int32 ⊕ Nat) (h' : zH), zm148_9 k43 n x0 x1 x2 x3 x4 x5 h = some (r, h') → zAt 148 9 [some (zrv x0), some (zI x1), some (zI x2), some (zI x3), some (zI x4), some (zI x5)] [] h (zoI r) h' := by
  intro n
  induction n with
  | zero => intro x0 x1 x2 x3 x4 x5 h r h' H; cases H
  | succ n ih =>
    intro x0 x1 x2 x3 x4 x5 h r h' H
    unfold zm148_9 at H
    refine zA_ld rfl rfl rfl ?_
    refine zA_push rfl rfl zkk3 ?_
    rcases zite_e H with ⟨c21, H⟩ | ⟨c21, H⟩
    · refine zA_brT (c := (3 : Int32) ≤ x5) rfl rfl rfl c21 ?_
      exact zA_tr (L := [some (zrv x0), some (zI x1), none, some (zI x3), some (zI x4), none]) rfl rfl (hk43 _ _ _ _ _ _ _ H)
    · refine zA_brF (c := (3 : Int32) ≤ x5) rfl rfl rfl c21 ?_
      refine zA_ldn rfl rfl rfl ?_
      rcases zite_e H with ⟨c22, H⟩ | ⟨c22, H⟩
      · refine zA_brF' (c := x3 = 0) rfl rfl rfl c22 ?_
        refine zA_aldn rfl rfl rfl ?_
        obtain ⟨p23, i24, e25, c26, H⟩ := zob_e H
        refine zA_gf3 rfl rfl e25 c26 ?_
        refine zA_push rfl rfl zkk3 ?_
        refine zA_ld rfl rfl rfl ?_
        refine zA_st (st' := [zI ((3 : Int32) * x4), zrv (zr h p23 i24 12)]) rfl rfl rfl rfl ?_
        refine zA_ld rfl rfl rfl ?_
        refine zA_st (st' := [zI (((3 : Int32) * x4) + x5), zrv (zr h p23 i24 12)]) rfl rfl rfl rfl ?_
        obtain ⟨p27, i28, j29, v34, e30, c31, c32, e33, e35, H⟩ := zri_e H
        refine zA_ial rfl rfl e30 c31 c32 e33 e35 ?_
        refine zA_ldn rfl rfl rfl ?_
        rcases zite_e H with ⟨c36, H⟩ | ⟨c36, H⟩
        · refine zA_brF' (c := v34 = x1) rfl rfl rfl c36 ?_
          refine zA_ld rfl rfl rfl ?_
          refine zA_ldn rfl rfl rfl ?_
          rcases zite_e H with ⟨c37, H⟩ | ⟨c37, H⟩
          · refine zA_brF' (c := x5 = x2) rfl rfl rfl c37 ?_
            exact zA_tr (L := [some (zrv x0), some (zI x1), some (zI x2), none, some (zI x4), some (zI x5)]) rfl rfl (zmS148_27 ih _ _ _ _ _ _ _ _ H)
          · refine zA_brT' (c := x5 = x2) rfl rfl rfl c37 ?_
            refine zA_tr (L := [some (zrv x0), some (zI x1), some (zI x2), none, some (zI x4), some (zI x5)]) rfl rfl ?_
            refine zA_push rfl rfl zkk5 ?_
            refine zA_go rfl rfl ?_
            exact zA_tr (L := [some (zrv x0), some (zI x1), some (zI x2), none, some (zI x4), some (zI x5)]) rfl rfl (zmS148_40 ih _ _ _ _ _ _ _ _ _ H)
        · refine zA_brT' (c := v34 = x1) rfl rfl rfl c36 ?_
          exact zA_tr (L := [some (zrv x0), some (zI x1), some (zI x2), none, some (zI x4), some (zI x5)]) rfl rfl (zmS148_27 ih _ _ _ _ _ _ _ _ H)
      · refine zA_brT' (c := x3 = 0) rfl rfl rfl c22 ?_
        refine zA_tr (L := [some (zrv x0), some (zI x1), some (zI x2), none, some (zI x4), some (zI x5)]) rfl rfl ?_
        refine zA_push rfl rfl zkk5 ?_
        refine zA_go rfl rfl ?_
        exact zA_tr (L := [some (zrv x0), some (zI x1), some (zI x2), none, some (zI x4), some (zI x5)]) rfl rfl (zmS148_40 ih _ _ _ _ _ _ _ _ _ H)
def zm148_63 (k45 : zq → Int32 → Int32 → Int32 → Int32 → zH → zRs Int32) (x0 : zq) (x1 : Int32) (x4 : Int32) (x5 : Int32) (s0 : Int32) (h : zH) : zRs Int32 :=
  zlet (x5 + (1 : Int32)) fun x21 =>
  k45 x0 x1 s0 x4 x21 h
theorem zmS148_63 {k45 : zq → Int32 → Int32 → Int32 → Int32 → zH → zRs Int32} (hk45 : ∀ (x0 : zq) (x1 : Int32) (x3 : Int32) (x4 : Int32) (x5 : Int32) (h : zH) (r : Int32 ⊕ Nat) (h' : zH), k45 x0 x1 x3 x4 x5 h = some (r, h') → zAt 148 45 [some (zrv x0), some (zI x1), none, some (zI x3), some (zI x4), some (zI x5)] [] h (zoI r) h') : ∀ (x0 : zq) (x1 : Int32) (x4 : Int32) (x5 : Int32) (s0 : Int32) (h : zH) (r : Int32 ⊕ Nat) (h' : zH), zm148_63 k45 x0 x1 x4 x5 s0 h = some (r, h') → zAt 148 63 [some (zrv x0), some (zI x1), none, none, some (zI x4), some (zI x5)] [zI s0] h (zoI r) h' := by
  intro x0 x1 x4 x5 s0 h r h' H
  unfold zm148_63 at H
  refine zA_istn2 rfl rfl rfl (zset1 (L' := [some (zrv x0), some (zI x1), none, some (zI s0), some (zI x4), some (zI x5)]) rfl rfl (zpcN rfl)) ?_
  obtain ⟨x21, e22, H⟩ := zlet_e H
  refine zA_inc rfl rfl rfl (e22.trans (congrArg (_ + ·) zkk8)) (zset1 (L' := [some (zrv x0), some (zI x1), none, some (zI s0), some (zI x4), some (zI x21)]) rfl rfl (zpcV rfl rfl)) ?_
  refine zA_go rfl rfl ?_
  exact zA_tr (L := [some (zrv x0), some (zI x1), none, some (zI s0), some (zI x4), some (zI x21)]) rfl rfl (hk45 _ _ _ _ _ _ _ _ H)
def zm148_45 : Nat → zq → Int32 → Int32 → Int32 → Int32 → zH → zRs Int32
  | 0, _, _, _, _, _, _ => none
  | n + 1, x0, x1, x3, x4, x5, h =>
    if (200 : Int32) ≤ x5 then
      zif (x3 = 0 ∨ x3 = 1) <|
      some (.inl x3, h)
    else
      if x3 = 0 then
        zob 12 x0 fun p24 i25 =>
        zri (zr h p24 i25 18) (((200 : Int32) * x4) + x5) h fun v35 =>
        if v35 = x1 then
          zm148_63 (zm148_45 n) x0 x1 x4 x5 (1 : Int32) h
        else
          zm148_63 (zm148_45 n) x0 x1 x4 x5 (0 : Int32) h
      else
        zif (x3 = 0 ∨ x3 = 1) <|
        some (.inl x3, h)
theorem zmS148_45 : ∀ (n : Nat) (x0 : zq) (x1 : Int32) (x3 : Int32) (x4 : Int32) (x5 : Int32) (h : zH) (r : Int32 ⊕ Nat) (h' : zH), zm148_45 n x0 x1 x3 x4 x5 h = some (r, h') → zAt 148 45 [some (zrv x0), some (zI x1), none, some (zI x3), some (zI x4), some (zI x5)] [] h (zoI r) h' := by
  intro n
  induction n with
  | zero => intro x0 x1 x3 x4 x5 h r h' H; cases H
  | succ n ih =>
    intro x0 x1 x3 x4 x5 h r h' H
    unfold zm148_45 at H
    refine zA_ld rfl rfl rfl ?_
    refine zA_push rfl rfl zkk4 ?_
    rcases zite_e H with ⟨c21, H⟩ | ⟨c21, H⟩
    · refine zA_brT (c := (200 : Int32) ≤ x5) rfl rfl rfl c21 ?_
      refine zA_tr (L := [none, none, none, some (zI x3), none, none]) rfl rfl ?_
      refine zA_ldn rfl rfl rfl ?_
      obtain ⟨c22, H⟩ := zif_e H
      cases H
      exact zA_ret rfl (zret_Z c22)
    · refine zA_brF (c := (200 : Int32) ≤ x5) rfl rfl rfl c21 ?_
      refine zA_ldn rfl rfl rfl ?_
      rcases zite_e H with ⟨c23, H⟩ | ⟨c23, H⟩
      · refine zA_brF' (c := x3 = 0) rfl rfl rfl c23 ?_
        refine zA_aldn rfl rfl rfl ?_
        obtain ⟨p24, i25, e26, c27, H⟩ := zob_e H
        refine zA_gf3 rfl rfl e26 c27 ?_
        refine zA_push rfl rfl zkk4 ?_
        refine zA_ld rfl rfl rfl ?_
        refine zA_st (st' := [zI ((200 : Int32) * x4), zrv (zr h p24 i25 18)]) rfl rfl rfl rfl ?_
        refine zA_ld rfl rfl rfl ?_
        refine zA_st (st' := [zI (((200 : Int32) * x4) + x5), zrv (zr h p24 i25 18)]) rfl rfl rfl rfl ?_
        obtain ⟨p28, i29, j30, v35, e31, c32, c33, e34, e36, H⟩ := zri_e H
        refine zA_ial rfl rfl e31 c32 c33 e34 e36 ?_
        refine zA_ldn rfl rfl rfl ?_
        rcases zite_e H with ⟨c37, H⟩ | ⟨c37, H⟩
        · refine zA_brF' (c := v35 = x1) rfl rfl rfl c37 ?_
          refine zA_push rfl rfl zkk5 ?_
          refine zA_go rfl rfl ?_
          exact zA_tr (L := [some (zrv x0), some (zI x1), none, none, some (zI x4), some (zI x5)]) rfl rfl (zmS148_63 ih _ _ _ _ _ _ _ _ H)
        · refine zA_brT' (c := v35 = x1) rfl rfl rfl c37 ?_
          refine zA_tr (L := [some (zrv x0), some (zI x1), none, none, some (zI x4), some (zI x5)]) rfl rfl ?_
          refine zA_push rfl rfl zkk7 ?_
          exact zA_tr (L := [some (zrv x0), some (zI x1), none, none, some (zI x4), some (zI x5)]) rfl rfl (zmS148_63 ih _ _ _ _ _ _ _ _ H)
      · refine zA_brT' (c := x3 = 0) rfl rfl rfl c23 ?_
        refine zA_tr (L := [none, none, none, some (zI x3), none, none]) rfl rfl ?_
        refine zA_ldn rfl rfl rfl ?_
        obtain ⟨c38, H⟩ := zif_e H
        cases H
        exact zA_ret rfl (zret_Z c38)
def zm148_43 (x0 : zq) (x1 : Int32) (x3 : Int32) (x4 : Int32) (h : zH) : zRs Int32 :=
  zm148_45 zN0 x0 x1 x3 x4 (0 : Int32) h
theorem zmS148_43 : ∀ (x0 : zq) (x1 : Int32) (x3 : Int32) (x4 : Int32) (h : zH) (r : Int32 ⊕ Nat) (h' : zH), zm148_43 x0 x1 x3 x4 h = some (r, h') → zAt 148 43 [some (zrv x0), some (zI x1), none, some (zI x3), some (zI x4), none] [] h (zoI r) h' := by
  intro x0 x1 x3 x4 h r h' H
  unfold zm148_43 at H
  refine zA_push rfl rfl zkk7 ?_
  refine zA_ist2 rfl rfl rfl (zset1 (L' := [some (zrv x0), some (zI x1), none, some (zI x3), some (zI x4), some (zI (0 : Int32))]) rfl rfl (zpcV rfl rfl)) ?_
  exact zA_tr (L := [some (zrv x0), some (zI x1), none, some (zI x3), some (zI x4), some (zI (0 : Int32))]) rfl rfl (zmS148_45 zN0 _ _ _ _ _ _ _ _ H)
-- 148: ReleaseHouseModel.lives(II)Z
def zm148 (x0 : zq) (x1 : Int32) (x2 : Int32) (h : zH) : zRs Int32 :=
  zob 12 x0 fun p21 i22 =>
  zri (zr h p21 i22 3) x1 h fun v32 =>
  zm148_9 (zm148_43) zN0 x0 x1 x2 (0 : Int32) v32 (0 : Int32) h
theorem zmS148 {x0 : zq} {x1 : Int32} {x2 : Int32} {h : zH} {r : Int32 ⊕ Nat} {h' : zH} (H : zm148 x0 x1 x2 h = some (r, h')) : zAt 148 0 [some (zrv x0), some (zI x1), some (zI x2), none, none, none] [] h (zoI r) h' := by
  unfold zm148 at H
  refine zA_push rfl rfl zkk7 ?_
  refine zA_istn2 rfl rfl rfl (zset1 (L' := [some (zrv x0), some (zI x1), some (zI x2), some (zI (0 : Int32)), none, none]) rfl rfl (zpcV rfl rfl)) ?_
  refine zA_aldn rfl rfl rfl ?_
  obtain ⟨p21, i22, e23, c24, H⟩ := zob_e H
  refine zA_gf3 rfl rfl e23 c24 ?_
  refine zA_ldn rfl rfl rfl ?_
  obtain ⟨p25, i26, j27, v32, e28, c29, c30, e31, e33, H⟩ := zri_e H
  refine zA_ial rfl rfl e28 c29 c30 e31 e33 ?_
  refine zA_ist2 rfl rfl rfl (zset1 (L' := [some (zrv x0), some (zI x1), some (zI x2), some (zI (0 : Int32)), some (zI v32), none]) rfl rfl (zpcV rfl rfl)) ?_
  refine zA_push rfl rfl zkk7 ?_
  refine zA_ist2 rfl rfl rfl (zset1 (L' := [some (zrv x0), some (zI x1), some (zI x2), some (zI (0 : Int32)), some (zI v32), some (zI (0 : Int32))]) rfl rfl (zpcV rfl rfl)) ?_
  exact zA_tr (L := [some (zrv x0), some (zI x1), some (zI x2), some (zI (0 : Int32)), some (zI v32), some (zI (0 : Int32))]) rfl rfl (zmS148_9 (zmS148_43) zN0 _ _ _ _ _ _ _ _ _ H)
theorem zmE148 (x0 : zq) (x1 : Int32) (x2 : Int32) : zpad (zPr.2.1 148).1 (zil [zrv x0, zI x1, zI x2]) = [some (zrv x0), some (zI x1), some (zI x2), none, none, none] := by
  simp only [zil_A, zil_I, zil_F, zil_D, zil_N]
  rfl
def zm149_8 (x0 : zq) (x1 : Int32) (s0 : zq) (s1 : Int32) (h : zH) : zRs Int32 :=
  zob 12 s0 fun p21 i22 =>
  zlet (zsi h p21 i22 0 s1) fun h25 =>
  zob 12 x0 fun p27 i28 =>
  if (zi h25 p27 i28 0) = 0 then
    zb (zm148 x0 x1 (-1 : Int32) h25) fun x33 h32 =>
    if x33 = 0 then
      some (.inl (0 : Int32), h32)
    else
      some (.inl (1 : Int32), h32)
  else
    some (.inl (0 : Int32), h25)
theorem zmS149_8 : ∀ (x0 : zq) (x1 : Int32) (s0 : zq) (s1 : Int32) (h : zH) (r : Int32 ⊕ Nat) (h' : zH), zm149_8 x0 x1 s0 s1 h = some (r, h') → zAt 149 8 [some (zrv x0), some (zI x1)] [zI s1, zrv s0] h (zoI r) h' := by
  intro x0 x1 s0 s1 h r h' H
  unfold zm149_8 at H
  obtain ⟨p21, i22, e23, c24, H⟩ := zob_e H
  obtain ⟨h25, e26, H⟩ := zlet_e H
  refine zA_pf0 rfl rfl e23 c24 e26 ?_
  refine zA_aldn rfl rfl rfl ?_
  obtain ⟨p27, i28, e29, c30, H⟩ := zob_e H
  refine zA_gf0 rfl rfl (Or.inl rfl) e29 c30 ?_
  rcases zite_e H with ⟨c31, H⟩ | ⟨c31, H⟩
  · refine zA_brF' (c := (zi h25 p27 i28 0) = 0) rfl rfl rfl c31 ?_
    refine zA_aldn rfl rfl rfl ?_
    refine zA_ldn rfl rfl rfl ?_
    refine zA_push rfl rfl zkk6 ?_
    rcases zb_e H with ⟨x33, h32, C, H⟩ | ⟨E, h32, C, H⟩
    · refine zA_callV (as := [zrv x0, zI x1, zI (-1 : Int32)]) (st' := []) rfl rfl rfl (zrcv_Q e29 c30) rfl (zmE148 _ _ _) rfl (zmS148 C) ?_
      rcases zite_e H with ⟨c34, H⟩ | ⟨c34, H⟩
      · refine zA_brT (c := x33 = 0) rfl rfl rfl c34 ?_
        refine zA_tr (L := [none, none]) rfl rfl ?_
        refine zA_push rfl rfl zkk7 ?_
        cases H
        exact zA_ret rfl (zret_Z (by decide))
      · refine zA_brF (c := x33 = 0) rfl rfl rfl c34 ?_
        refine zA_push rfl rfl zkk5 ?_
        refine zA_go rfl rfl ?_
        refine zA_tr (L := [none, none]) rfl rfl ?_
        cases H
        exact zA_ret rfl (zret_Z (by decide))
    · cases H
      exact zA_callX (as := [zrv x0, zI x1, zI (-1 : Int32)]) (st' := []) rfl rfl (zrcv_Q e29 c30) rfl (zmE148 _ _ _) rfl rfl rfl (zmS148 C)
  · refine zA_brT' (c := (zi h25 p27 i28 0) = 0) rfl rfl rfl c31 ?_
    refine zA_tr (L := [none, none]) rfl rfl ?_
    refine zA_push rfl rfl zkk7 ?_
    cases H
    exact zA_ret rfl (zret_Z (by decide))
-- 149: ReleaseHouseModel.isLive(I)Z
def zm149 (x0 : zq) (x1 : Int32) (h : zH) : zRs Int32 :=
  zob 12 x0 fun p21 i22 =>
  zb (zm142 x0 x1 h) fun x26 h25 =>
  if x26 = 0 then
    zm149_8 x0 x1 x0 (1 : Int32) h25
  else
    zm149_8 x0 x1 x0 (0 : Int32) h25
theorem zmS149 {x0 : zq} {x1 : Int32} {h : zH} {r : Int32 ⊕ Nat} {h' : zH} (H : zm149 x0 x1 h = some (r, h')) : zAt 149 0 [some (zrv x0), some (zI x1)] [] h (zoI r) h' := by
  unfold zm149 at H
  refine zA_aldn rfl rfl rfl ?_
  refine zA_aldn rfl rfl rfl ?_
  refine zA_ldn rfl rfl rfl ?_
  obtain ⟨p21, i22, e23, c24, H⟩ := zob_e H
  rcases zb_e H with ⟨x26, h25, C, H⟩ | ⟨E, h25, C, H⟩
  · refine zA_callV (as := [zrv x0, zI x1]) (st' := [zrv x0]) rfl rfl rfl (zrcv_Q e23 c24) rfl (zmE142 _ _) rfl (zmS142 C) ?_
    rcases zite_e H with ⟨c27, H⟩ | ⟨c27, H⟩
    · refine zA_brT (c := x26 = 0) rfl rfl rfl c27 ?_
      refine zA_push rfl rfl zkk5 ?_
      exact zA_tr (L := [some (zrv x0), some (zI x1)]) rfl rfl (zmS149_8 _ _ _ _ _ _ _ H)
    · refine zA_brF (c := x26 = 0) rfl rfl rfl c27 ?_
      refine zA_push rfl rfl zkk7 ?_
      refine zA_go rfl rfl ?_
      exact zA_tr (L := [some (zrv x0), some (zI x1)]) rfl rfl (zmS149_8 _ _ _ _ _ _ _ H)
  · cases H
    exact zA_callX (as := [zrv x0, zI x1]) (st' := [zrv x0]) rfl rfl (zrcv_Q e23 c24) rfl (zmE142 _ _) rfl rfl rfl (zmS142 C)
theorem zmE149 (x0 : zq) (x1 : Int32) : zpad (zPr.2.1 149).1 (zil [zrv x0, zI x1]) = [some (zrv x0), some (zI x1)] := by
  simp only [zil_A, zil_I, zil_F, zil_D, zil_N]
  rfl
def zm46_28 (k2 : zq → zq → zq → Int32 → zH → zRs Int32) (x0 : zq) (x1 : zq) (x2 : zq) (x3 : Int32) (h : zH) : zRs Int32 :=
  zlet (x3 + (1 : Int32)) fun x21 =>
  k2 x0 x1 x2 x21 h
theorem zmS46_28 {k2 : zq → zq → zq → Int32 → zH → zRs Int32} (hk2 : ∀ (x0 : zq) (x1 : zq) (x2 : zq) (x3 : Int32) (h : zH) (r : Int32 ⊕ Nat) (h' : zH), k2 x0 x1 x2 x3 h = some (r, h') → zAt 46 2 [some (zrv x0), some (zrv x1), some (zrv x2), some (zI x3), none] [] h (zoI r) h') : ∀ (x0 : zq) (x1 : zq) (x2 : zq) (x3 : Int32) (h : zH) (r : Int32 ⊕ Nat) (h' : zH), zm46_28 k2 x0 x1 x2 x3 h = some (r, h') → zAt 46 28 [some (zrv x0), some (zrv x1), some (zrv x2), some (zI x3), none] [] h (zoI r) h' := by
  intro x0 x1 x2 x3 h r h' H
  unfold zm46_28 at H
  obtain ⟨x21, e22, H⟩ := zlet_e H
  refine zA_inc rfl rfl rfl (e22.trans (congrArg (_ + ·) zkk8)) (zset1 (L' := [some (zrv x0), some (zrv x1), some (zrv x2), some (zI x21), none]) rfl rfl (zpcV rfl (zcat_rv _))) ?_
  refine zA_go rfl rfl ?_
  exact zA_tr (L := [some (zrv x0), some (zrv x1), some (zrv x2), some (zI x21), none]) rfl rfl (hk2 _ _ _ _ _ _ _ H)
def zm46_2 : Nat → zq → zq → zq → Int32 → zH → zRs Int32
  | 0, _, _, _, _, _ => none
  | n + 1, x0, x1, x2, x3, h =>
    zob 11 x0 fun p21 i22 =>
    zlz (zr h p21 i22 0) h fun v30 =>
    if v30 ≤ x3 then
      some (.inl (1 : Int32), h)
    else
      zlg (zr h p21 i22 0) x3 h fun v39 =>
      zob 0 v39 fun p41 i42 =>
      if (zi h p41 i42 10) ≤ 0 then
        zm46_28 (zm46_2 n) x0 x1 x2 x3 h
      else
        if v39 = x1 then
          zm46_28 (zm46_2 n) x0 x1 x2 x3 h
        else
          if v39 = x2 then
            zm46_28 (zm46_2 n) x0 x1 x2 x3 h
          else
            zob 0 x1 fun p48 i49 =>
            zb (zm1 x1 v39 h) fun x53 h52 =>
            if x53 = 0 then
              zm46_28 (zm46_2 n) x0 x1 x2 x3 h52
            else
              some (.inl (0 : Int32), h52)
theorem zmS46_2 : ∀ (n : Nat) (x0 : zq) (x1 : zq) (x2 : zq) (x3 : Int32) (h : zH) (r : Int32 ⊕ Nat) (h' : zH), zm46_2 n x0 x1 x2 x3 h = some (r, h') → zAt 46 2 [some (zrv x0), some (zrv x1), some (zrv x2), some (zI x3), none] [] h (zoI r) h' := by
  intro n
  induction n with
  | zero => intro x0 x1 x2 x3 h r h' H; cases H
  | succ n ih =>
    intro x0 x1 x2 x3 h r h' H
    unfold zm46_2 at H
    refine zA_ldn rfl rfl rfl ?_
    refine zA_aldn rfl rfl rfl ?_
    obtain ⟨p21, i22, e23, c24, H⟩ := zob_e H
    refine zA_gf3 rfl rfl e23 c24 ?_
    obtain ⟨p25, i26, v30, e27, c28, c29, e31, H⟩ := zlz_e H
    refine zA_l2 rfl rfl rfl e27 c28 c29 e31 ?_
    rcases zite_e H with ⟨c32, H⟩ | ⟨c32, H⟩
    · refine zA_brT (c := v30 ≤ x3) rfl rfl rfl c32 ?_
      refine zA_tr (L := [none, none, none, none, none]) rfl rfl ?_
      refine zA_push rfl rfl zkk5 ?_
      cases H
      exact zA_ret rfl (zret_Z (by decide))
    · refine zA_brF (c := v30 ≤ x3) rfl rfl rfl c32 ?_
      refine zA_aldn rfl rfl rfl ?_
      refine zA_gf3 rfl rfl e23 c24 ?_
      refine zA_ldn rfl rfl rfl ?_
      obtain ⟨p33, i34, v39, e35, c36, c37, c38, e40, H⟩ := zlg_e H
      refine zA_l3 rfl rfl rfl e35 c36 c37 c38 e40 ?_
      obtain ⟨p41, i42, e43, c44, H⟩ := zob_e H
      refine zA_cast rfl rfl e43 c44 ?_
      refine zA_ast2 rfl rfl rfl (zset1 (L' := [some (zrv x0), some (zrv x1), some (zrv x2), some (zI x3), some (zrv v39)]) (zcat_rv _) rfl (zpcV rfl rfl)) ?_
      refine zA_ald rfl rfl rfl ?_
      refine zA_gf0 rfl rfl (Or.inl rfl) e43 c44 ?_
      rcases zite_e H with ⟨c45, H⟩ | ⟨c45, H⟩
      · refine zA_brT (c := (zi h p41 i42 10) ≤ 0) rfl rfl rfl c45 ?_
        exact zA_tr (L := [some (zrv x0), some (zrv x1), some (zrv x2), some (zI x3), none]) rfl rfl (zmS46_28 ih _ _ _ _ _ _ _ H)
      · refine zA_brF (c := (zi h p41 i42 10) ≤ 0) rfl rfl rfl c45 ?_
        refine zA_ald rfl rfl rfl ?_
        refine zA_aldn rfl rfl rfl ?_
        rcases zite_e H with ⟨c46, H⟩ | ⟨c46, H⟩
        · refine zA_brT (c := v39 = x1) rfl rfl zIf_aeq c46 ?_
          exact zA_tr (L := [some (zrv x0), some (zrv x1), some (zrv x2), some (zI x3), none]) rfl rfl (zmS46_28 ih _ _ _ _ _ _ _ H)
        · refine zA_brF (c := v39 = x1) rfl rfl zIf_aeq c46 ?_
          refine zA_ald rfl rfl rfl ?_
          refine zA_aldn rfl rfl rfl ?_
          rcases zite_e H with ⟨c47, H⟩ | ⟨c47, H⟩
          · refine zA_brT (c := v39 = x2) rfl rfl zIf_aeq c47 ?_
            exact zA_tr (L := [some (zrv x0), some (zrv x1), some (zrv x2), some (zI x3), none]) rfl rfl (zmS46_28 ih _ _ _ _ _ _ _ H)
          · refine zA_brF (c := v39 = x2) rfl rfl zIf_aeq c47 ?_
            refine zA_aldn rfl rfl rfl ?_
            refine zA_ald rfl rfl rfl ?_
            obtain ⟨p48, i49, e50, c51, H⟩ := zob_e H
            rcases zb_e H with ⟨x53, h52, C, H⟩ | ⟨E, h52, C, H⟩
            · refine zA_callV (as := [zrv x1, zrv v39]) (st' := []) rfl rfl rfl (zrcv_Q e50 c51) rfl (zmE1 _ _) rfl (zmS1 C) ?_
              rcases zite_e H with ⟨c54, H⟩ | ⟨c54, H⟩
              · refine zA_brT (c := x53 = 0) rfl rfl rfl c54 ?_
                exact zA_tr (L := [some (zrv x0), some (zrv x1), some (zrv x2), some (zI x3), none]) rfl rfl (zmS46_28 ih _ _ _ _ _ _ _ H)
              · refine zA_brF (c := x53 = 0) rfl rfl rfl c54 ?_
                refine zA_push rfl rfl zkk7 ?_
                cases H
                exact zA_ret rfl (zret_Z (by decide))
            · cases H
              exact zA_callX (as := [zrv x1, zrv v39]) (st' := []) rfl rfl (zrcv_Q e50 c51) rfl (zmE1 _ _) rfl rfl rfl (zmS1 C)
-- 46: ReleaseHouse.fitsToLive(LReleaseHouse$Artefact;LReleaseHouse$Artefact;)Z
def zm46 (x0 : zq) (x1 : zq) (x2 : zq) (h : zH) : zRs Int32 :=
  zm46_2 zN0 x0 x1 x2 (0 : Int32) h
theorem zmS46 {x0 : zq} {x1 : zq} {x2 : zq} {h : zH} {r : Int32 ⊕ Nat} {h' : zH} (H : zm46 x0 x1 x2 h = some (r, h')) : zAt 46 0 [some (zrv x0), some (zrv x1), some (zrv x2), none, none] [] h (zoI r) h' := by
  unfold zm46 at H
  refine zA_push rfl rfl zkk7 ?_
  refine zA_istn2 rfl rfl rfl (zset1 (L' := [some (zrv x0), some (zrv x1), some (zrv x2), some (zI (0 : Int32)), none]) rfl rfl (zpcV rfl (zcat_rv _))) ?_
  exact zA_tr (L := [some (zrv x0), some (zrv x1), some (zrv x2), some (zI (0 : Int32)), none]) rfl rfl (zmS46_2 zN0 _ _ _ _ _ _ _ H)
theorem zmE46 (x0 : zq) (x1 : zq) (x2 : zq) : zpad (zPr.2.1 46).1 (zil [zrv x0, zrv x1, zrv x2]) = [some (zrv x0), some (zrv x1), some (zrv x2), none, none] := by
  simp only [zil_A, zil_I, zil_F, zil_D, zil_N]
  rfl
def zm25_22 (k4 : zq → zq → Int32 → Int32 → zH → zRs Int32) (x0 : zq) (x1 : zq) (x2 : Int32) (x3 : Int32) (h : zH) : zRs Int32 :=
  zlet (x3 + (1 : Int32)) fun x21 =>
  k4 x0 x1 x2 x21 h
theorem zmS25_22 {k4 : zq → zq → Int32 → Int32 → zH → zRs Int32} (hk4 : ∀ (x0 : zq) (x1 : zq) (x2 : Int32) (x3 : Int32) (h : zH) (r : Int32 ⊕ Nat) (h' : zH), k4 x0 x1 x2 x3 h = some (r, h') → zAt 25 4 [some (zrv x0), some (zrv x1), some (zI x2), some (zI x3)] [] h (zoI r) h') : ∀ (x0 : zq) (x1 : zq) (x2 : Int32) (x3 : Int32) (h : zH) (r : Int32 ⊕ Nat) (h' : zH), zm25_22 k4 x0 x1 x2 x3 h = some (r, h') → zAt 25 22 [some (zrv x0), some (zrv x1), some (zI x2), some (zI x3)] [] h (zoI r) h' := by
  intro x0 x1 x2 x3 h r h' H
  unfold zm25_22 at H
  obtain ⟨x21, e22, H⟩ := zlet_e H
  refine zA_inc rfl rfl rfl (e22.trans (congrArg (_ + ·) zkk8)) (zset1 (L' := [some (zrv x0), some (zrv x1), some (zI x2), some (zI x21)]) rfl rfl (zpcV rfl rfl)) ?_
  refine zA_go rfl rfl ?_
  exact zA_tr (L := [some (zrv x0), some (zrv x1), some (zI x2), some (zI x21)]) rfl rfl (hk4 _ _ _ _ _ _ _ H)
def zm25_16 (k4 : zq → zq → Int32 → Int32 → zH → zRs Int32) (x0 : zq) (x1 : zq) (x2 : Int32) (x3 : Int32) (h : zH) : zRs Int32 :=
  zlet (x2 ||| ((1 : Int32) <<< (x3 &&& 31))) fun x21 =>
  zm25_22 k4 x0 x1 x21 x3 h
theorem zmS25_16 {k4 : zq → zq → Int32 → Int32 → zH → zRs Int32} (hk4 : ∀ (x0 : zq) (x1 : zq) (x2 : Int32) (x3 : Int32) (h : zH) (r : Int32 ⊕ Nat) (h' : zH), k4 x0 x1 x2 x3 h = some (r, h') → zAt 25 4 [some (zrv x0), some (zrv x1), some (zI x2), some (zI x3)] [] h (zoI r) h') : ∀ (x0 : zq) (x1 : zq) (x2 : Int32) (x3 : Int32) (h : zH) (r : Int32 ⊕ Nat) (h' : zH), zm25_16 k4 x0 x1 x2 x3 h = some (r, h') → zAt 25 16 [some (zrv x0), some (zrv x1), some (zI x2), some (zI x3)] [] h (zoI r) h' := by
  intro x0 x1 x2 x3 h r h' H
  unfold zm25_16 at H
  refine zA_ldn rfl rfl rfl ?_
  refine zA_push rfl rfl zkk5 ?_
  refine zA_ldn rfl rfl rfl ?_
  refine zA_st (st' := [zI ((1 : Int32) <<< (x3 &&& 31)), zI x2]) rfl rfl rfl rfl ?_
  refine zA_st (st' := [zI (x2 ||| ((1 : Int32) <<< (x3 &&& 31)))]) rfl rfl rfl rfl ?_
  obtain ⟨x21, e22, H⟩ := zlet_e H
  refine zA_istn2 rfl rfl e22 (zset1 (L' := [some (zrv x0), some (zrv x1), some (zI x21), some (zI x3)]) rfl rfl (zpcV rfl (zcat_rv _))) ?_
  exact zA_tr (L := [some (zrv x0), some (zrv x1), some (zI x21), some (zI x3)]) rfl rfl (zmS25_22 hk4 _ _ _ _ _ _ _ H)
def zm25_4 (k24 : zq → zq → Int32 → zH → zRs Int32) : Nat → zq → zq → Int32 → Int32 → zH → zRs Int32
  | 0, _, _, _, _, _ => none
  | n + 1, x0, x1, x2, x3, h =>
    if (8 : Int32) ≤ x3 then
      k24 x0 x1 x2 h
    else
      zob 8 x0 fun p22 i23 =>
      zri (zr h p22 i23 1) x3 h fun v33 =>
      if 0 < v33 then
        zm25_16 (zm25_4 k24 n) x0 x1 x2 x3 h
      else
        if x3 = (zi h p22 i23 5) then
          zm25_16 (zm25_4 k24 n) x0 x1 x2 x3 h
        else
          zm25_22 (zm25_4 k24 n) x0 x1 x2 x3 h
theorem zmS25_4 {k24 : zq → zq → Int32 → zH → zRs Int32} (hk24 : ∀ (x0 : zq) (x1 : zq) (x2 : Int32) (h : zH) (r : Int32 ⊕ Nat) (h' : zH), k24 x0 x1 x2 h = some (r, h') → zAt 25 24 [some (zrv x0), some (zrv x1), some (zI x2), none] [] h (zoI r) h') : ∀ (n : Nat) (x0 : zq) (x1 : zq) (x2 : Int32) (x3 : Int32) (h : zH) (r : Int32 ⊕ Nat) (h' : zH), zm25_4 k24 n x0 x1 x2 x3 h = some (r, h') → zAt 25 4 [some (zrv x0), some (zrv x1), some (zI x2), some (zI x3)] [] h (zoI r) h' := by
  intro n
  induction n with
  | zero => intro x0 x1 x2 x3 h r h' H; cases H
  | succ n ih =>
    intro x0 x1 x2 x3 h r h' H
    unfold zm25_4 at H
    refine zA_ldn rfl rfl rfl ?_
    refine zA_push rfl rfl zkk0 ?_
    rcases zite_e H with ⟨c21, H⟩ | ⟨c21, H⟩
    · refine zA_brT (c := (8 : Int32) ≤ x3) rfl rfl rfl c21 ?_
      exact zA_tr (L := [some (zrv x0), some (zrv x1), some (zI x2), none]) rfl rfl (hk24 _ _ _ _ _ _ H)
    · refine zA_brF (c := (8 : Int32) ≤ x3) rfl rfl rfl c21 ?_
      refine zA_aldn rfl rfl rfl ?_
      obtain ⟨p22, i23, e24, c25, H⟩ := zob_e H
      refine zA_gf3 rfl rfl e24 c25 ?_
      refine zA_ldn rfl rfl rfl ?_
      obtain ⟨p26, i27, j28, v33, e29, c30, c31, e32, e34, H⟩ := zri_e H
      refine zA_ial rfl rfl e29 c30 c31 e32 e34 ?_
      rcases zite_e H with ⟨c35, H⟩ | ⟨c35, H⟩
      · refine zA_brT (c := 0 < v33) rfl rfl rfl c35 ?_
        exact zA_tr (L := [some (zrv x0), some (zrv x1), some (zI x2), some (zI x3)]) rfl rfl (zmS25_16 ih _ _ _ _ _ _ _ H)
      · refine zA_brF (c := 0 < v33) rfl rfl rfl c35 ?_
        refine zA_ldn rfl rfl rfl ?_
        refine zA_aldn rfl rfl rfl ?_
        refine zA_gf0 rfl rfl (Or.inl rfl) e24 c25 ?_
        rcases zite_e H with ⟨c36, H⟩ | ⟨c36, H⟩
        · refine zA_brF' (c := x3 = (zi h p22 i23 5)) rfl rfl rfl c36 ?_
          exact zA_tr (L := [some (zrv x0), some (zrv x1), some (zI x2), some (zI x3)]) rfl rfl (zmS25_16 ih _ _ _ _ _ _ _ H)
        · refine zA_brT' (c := x3 = (zi h p22 i23 5)) rfl rfl rfl c36 ?_
          exact zA_tr (L := [some (zrv x0), some (zrv x1), some (zI x2), some (zI x3)]) rfl rfl (zmS25_22 ih _ _ _ _ _ _ _ H)
def zm25_24 (x0 : zq) (x1 : zq) (x2 : Int32) (h : zH) : zRs Int32 :=
  zob 8 x0 fun p21 i22 =>
  zob 0 x1 fun p25 i26 =>
  zb2 (zm133 (zi h p21 i22 3) (zi h p25 i26 7) h) fun x30 h29 =>
  if x30 = 0 then
    some (.inl (0 : Int32), h29)
  else
    if (x2 &&& ((zi h29 p25 i26 6) ^^^ (-1 : Int32))) = 0 then
      some (.inl (1 : Int32), h29)
    else
      some (.inl (0 : Int32), h29)
theorem zmS25_24 : ∀ (x0 : zq) (x1 : zq) (x2 : Int32) (h : zH) (r : Int32 ⊕ Nat) (h' : zH), zm25_24 x0 x1 x2 h = some (r, h') → zAt 25 24 [some (zrv x0), some (zrv x1), some (zI x2), none] [] h (zoI r) h' := by
  intro x0 x1 x2 h r h' H
  unfold zm25_24 at H
  refine zA_aldn rfl rfl rfl ?_
  obtain ⟨p21, i22, e23, c24, H⟩ := zob_e H
  refine zA_gf0 rfl rfl (Or.inl rfl) e23 c24 ?_
  refine zA_aldn rfl rfl rfl ?_
  obtain ⟨p25, i26, e27, c28, H⟩ := zob_e H
  refine zA_gf0 rfl rfl (Or.inl rfl) e27 c28 ?_
  obtain ⟨x30, h29, C, H⟩ := zb2_e H
  refine zA_callV (as := [zI (zi h p21 i22 3), zI (zi h p25 i26 7)]) (st' := []) rfl rfl rfl rfl rfl (zmE133 _ _) rfl (zmS133 C) ?_
  rcases zite_e H with ⟨c31, H⟩ | ⟨c31, H⟩
  · refine zA_brT (c := x30 = 0) rfl rfl rfl c31 ?_
    refine zA_tr (L := [none, none, none, none]) rfl rfl ?_
    refine zA_push rfl rfl zkk7 ?_
    cases H
    exact zA_ret rfl (zret_Z (by decide))
  · refine zA_brF (c := x30 = 0) rfl rfl rfl c31 ?_
    refine zA_ldn rfl rfl rfl ?_
    refine zA_aldn rfl rfl rfl ?_
    refine zA_gf0 rfl rfl (Or.inl rfl) e27 c28 ?_
    refine zA_push rfl rfl zkk6 ?_
    refine zA_st (st' := [zI ((zi h29 p25 i26 6) ^^^ (-1 : Int32)), zI x2]) rfl rfl rfl rfl ?_
    refine zA_st (st' := [zI (x2 &&& ((zi h29 p25 i26 6) ^^^ (-1 : Int32)))]) rfl rfl rfl rfl ?_
    rcases zite_e H with ⟨c32, H⟩ | ⟨c32, H⟩
    · refine zA_brF' (c := (x2 &&& ((zi h29 p25 i26 6) ^^^ (-1 : Int32))) = 0) rfl rfl rfl c32 ?_
      refine zA_push rfl rfl zkk5 ?_
      refine zA_go rfl rfl ?_
      refine zA_tr (L := [none, none, none, none]) rfl rfl ?_
      cases H
      exact zA_ret rfl (zret_Z (by decide))
    · refine zA_brT' (c := (x2 &&& ((zi h29 p25 i26 6) ^^^ (-1 : Int32))) = 0) rfl rfl rfl c32 ?_
      refine zA_tr (L := [none, none, none, none]) rfl rfl ?_
      refine zA_push rfl rfl zkk7 ?_
      cases H
      exact zA_ret rfl (zret_Z (by decide))
-- 25: ReleaseHouse$Service.suitsData(LReleaseHouse$Artefact;)Z
def zm25 (x0 : zq) (x1 : zq) (h : zH) : zRs Int32 :=
  zm25_4 (zm25_24) zN0 x0 x1 (0 : Int32) (0 : Int32) h
theorem zmS25 {x0 : zq} {x1 : zq} {h : zH} {r : Int32 ⊕ Nat} {h' : zH} (H : zm25 x0 x1 h = some (r, h')) : zAt 25 0 [some (zrv x0), some (zrv x1), none, none] [] h (zoI r) h' := by
  unfold zm25 at H
  refine zA_push rfl rfl zkk7 ?_
  refine zA_istn2 rfl rfl rfl (zset1 (L' := [some (zrv x0), some (zrv x1), some (zI (0 : Int32)), none]) rfl rfl (zpcV rfl (zcat_rv _))) ?_
  refine zA_push rfl rfl zkk7 ?_
  refine zA_istn2 rfl rfl rfl (zset1 (L' := [some (zrv x0), some (zrv x1), some (zI (0 : Int32)), some (zI (0 : Int32))]) rfl rfl (zpcV rfl rfl)) ?_
  exact zA_tr (L := [some (zrv x0), some (zrv x1), some (zI (0 : Int32)), some (zI (0 : Int32))]) rfl rfl (zmS25_4 (zmS25_24) zN0 _ _ _ _ _ _ _ H)
theorem zmE25 (x0 : zq) (x1 : zq) : zpad (zPr.2.1 25).1 (zil [zrv x0, zrv x1]) = [some (zrv x0), some (zrv x1), none, none] := by
  simp only [zil_A, zil_I, zil_F, zil_D, zil_N]
  rfl
def zm47_28 (k7 : zq → zq → Int32 → zH → zRs Int32) (x0 : zq) (x1 : zq) (x2 : Int32) (h : zH) : zRs Int32 :=
  zlet (x2 + (1 : Int32)) fun x21 =>
  k7 x0 x1 x21 h
theorem zmS47_28 {k7 : zq → zq → Int32 → zH → zRs Int32} (hk7 : ∀ (x0 : zq) (x1 : zq) (x2 : Int32) (h : zH) (r : Int32 ⊕ Nat) (h' : zH), k7 x0 x1 x2 h = some (r, h') → zAt 47 7 [some (zrv x0), some (zrv x1), some (zI x2), none] [] h (zoI r) h') : ∀ (x0 : zq) (x1 : zq) (x2 : Int32) (h : zH) (r : Int32 ⊕ Nat) (h' : zH), zm47_28 k7 x0 x1 x2 h = some (r, h') → zAt 47 28 [some (zrv x0), some (zrv x1), some (zI x2), none] [] h (zoI r) h' := by
  intro x0 x1 x2 h r h' H
  unfold zm47_28 at H
  obtain ⟨x21, e22, H⟩ := zlet_e H
  refine zA_inc rfl rfl rfl (e22.trans (congrArg (_ + ·) zkk8)) (zset1 (L' := [some (zrv x0), some (zrv x1), some (zI x21), none]) rfl rfl (zpcV rfl (zcat_rv _))) ?_
  refine zA_go rfl rfl ?_
  exact zA_tr (L := [some (zrv x0), some (zrv x1), some (zI x21), none]) rfl rfl (hk7 _ _ _ _ _ _ H)
def zm47_7 : Nat → zq → zq → Int32 → zH → zRs Int32
  | 0, _, _, _, _ => none
  | n + 1, x0, x1, x2, h =>
    zob 11 x0 fun p21 i22 =>
    zlz (zr h p21 i22 0) h fun v30 =>
    if v30 ≤ x2 then
      some (.inl (0 : Int32), h)
    else
      zlg (zr h p21 i22 0) x2 h fun v39 =>
      zob 0 v39 fun p41 i42 =>
      if (zi h p41 i42 10) ≤ 0 then
        zm47_28 (zm47_7 n) x0 x1 x2 h
      else
        zob 0 x1 fun p46 i47 =>
        if (zi h p41 i42 1) = (zi h p46 i47 5) then
          some (.inl (1 : Int32), h)
        else
          zm47_28 (zm47_7 n) x0 x1 x2 h
theorem zmS47_7 : ∀ (n : Nat) (x0 : zq) (x1 : zq) (x2 : Int32) (h : zH) (r : Int32 ⊕ Nat) (h' : zH), zm47_7 n x0 x1 x2 h = some (r, h') → zAt 47 7 [some (zrv x0), some (zrv x1), some (zI x2), none] [] h (zoI r) h' := by
  intro n
  induction n with
  | zero => intro x0 x1 x2 h r h' H; cases H
  | succ n ih =>
    intro x0 x1 x2 h r h' H
    unfold zm47_7 at H
    refine zA_ldn rfl rfl rfl ?_
    refine zA_aldn rfl rfl rfl ?_
    obtain ⟨p21, i22, e23, c24, H⟩ := zob_e H
    refine zA_gf3 rfl rfl e23 c24 ?_
    obtain ⟨p25, i26, v30, e27, c28, c29, e31, H⟩ := zlz_e H
    refine zA_l2 rfl rfl rfl e27 c28 c29 e31 ?_
    rcases zite_e H with ⟨c32, H⟩ | ⟨c32, H⟩
    · refine zA_brT (c := v30 ≤ x2) rfl rfl rfl c32 ?_
      refine zA_tr (L := [none, none, none, none]) rfl rfl ?_
      refine zA_push rfl rfl zkk7 ?_
      cases H
      exact zA_ret rfl (zret_Z (by decide))
    · refine zA_brF (c := v30 ≤ x2) rfl rfl rfl c32 ?_
      refine zA_aldn rfl rfl rfl ?_
      refine zA_gf3 rfl rfl e23 c24 ?_
      refine zA_ldn rfl rfl rfl ?_
      obtain ⟨p33, i34, v39, e35, c36, c37, c38, e40, H⟩ := zlg_e H
      refine zA_l3 rfl rfl rfl e35 c36 c37 c38 e40 ?_
      obtain ⟨p41, i42, e43, c44, H⟩ := zob_e H
      refine zA_cast rfl rfl e43 c44 ?_
      refine zA_astn2 rfl rfl rfl (zset1 (L' := [some (zrv x0), some (zrv x1), some (zI x2), some (zrv v39)]) (zcat_rv _) rfl (zpcV rfl rfl)) ?_
      refine zA_aldn rfl rfl rfl ?_
      refine zA_gf0 rfl rfl (Or.inl rfl) e43 c44 ?_
      rcases zite_e H with ⟨c45, H⟩ | ⟨c45, H⟩
      · refine zA_brT (c := (zi h p41 i42 10) ≤ 0) rfl rfl rfl c45 ?_
        exact zA_tr (L := [some (zrv x0), some (zrv x1), some (zI x2), none]) rfl rfl (zmS47_28 ih _ _ _ _ _ _ H)
      · refine zA_brF (c := (zi h p41 i42 10) ≤ 0) rfl rfl rfl c45 ?_
        refine zA_aldn rfl rfl rfl ?_
        refine zA_gf0 rfl rfl (Or.inl rfl) e43 c44 ?_
        refine zA_aldn rfl rfl rfl ?_
        obtain ⟨p46, i47, e48, c49, H⟩ := zob_e H
        refine zA_gf0 rfl rfl (Or.inl rfl) e48 c49 ?_
        rcases zite_e H with ⟨c50, H⟩ | ⟨c50, H⟩
        · refine zA_brF' (c := (zi h p41 i42 1) = (zi h p46 i47 5)) rfl rfl rfl c50 ?_
          refine zA_push rfl rfl zkk5 ?_
          cases H
          exact zA_ret rfl (zret_Z (by decide))
        · refine zA_brT' (c := (zi h p41 i42 1) = (zi h p46 i47 5)) rfl rfl rfl c50 ?_
          exact zA_tr (L := [some (zrv x0), some (zrv x1), some (zI x2), none]) rfl rfl (zmS47_28 ih _ _ _ _ _ _ H)
-- 47: ReleaseHouse.hasWhatItNeeds(LReleaseHouse$Artefact;)Z
def zm47 (x0 : zq) (x1 : zq) (h : zH) : zRs Int32 :=
  zob 0 x1 fun p21 i22 =>
  if (zi h p21 i22 4) = 0 then
    some (.inl (1 : Int32), h)
  else
    zm47_7 zN0 x0 x1 (0 : Int32) h
theorem zmS47 {x0 : zq} {x1 : zq} {h : zH} {r : Int32 ⊕ Nat} {h' : zH} (H : zm47 x0 x1 h = some (r, h')) : zAt 47 0 [some (zrv x0), some (zrv x1), none, none] [] h (zoI r) h' := by
  unfold zm47 at H
  refine zA_aldn rfl rfl rfl ?_
  obtain ⟨p21, i22, e23, c24, H⟩ := zob_e H
  refine zA_gf0 rfl rfl (Or.inl rfl) e23 c24 ?_
  rcases zite_e H with ⟨c25, H⟩ | ⟨c25, H⟩
  · refine zA_brF' (c := (zi h p21 i22 4) = 0) rfl rfl rfl c25 ?_
    refine zA_push rfl rfl zkk5 ?_
    cases H
    exact zA_ret rfl (zret_Z (by decide))
  · refine zA_brT' (c := (zi h p21 i22 4) = 0) rfl rfl rfl c25 ?_
    refine zA_push rfl rfl zkk7 ?_
    refine zA_istn2 rfl rfl rfl (zset1 (L' := [some (zrv x0), some (zrv x1), some (zI (0 : Int32)), none]) rfl rfl (zpcV rfl (zcat_rv _))) ?_
    exact zA_tr (L := [some (zrv x0), some (zrv x1), some (zI (0 : Int32)), none]) rfl rfl (zmS47_7 zN0 _ _ _ _ _ _ H)
theorem zmE47 (x0 : zq) (x1 : zq) : zpad (zPr.2.1 47).1 (zil [zrv x0, zrv x1]) = [some (zrv x0), some (zrv x1), none, none] := by
  simp only [zil_A, zil_I, zil_F, zil_D, zil_N]
  rfl
-- 45: ReleaseHouse.reasonNotToGo(LReleaseHouse$Artefact;)I
def zm45 (x0 : zq) (x1 : zq) (h : zH) : zRs Int32 :=
  zob 0 x1 fun p21 i22 =>
  if (zi h p21 i22 10) ≤ 0 then
    zob 11 x0 fun p26 i27 =>
    zb (zm46 x0 x1 (none : zq) h) fun x31 h30 =>
    if x31 = 0 then
      some (.inl (6 : Int32), h30)
    else
      zra (zr h30 p26 i27 6) (zi h30 p21 i22 1) h30 fun v40 =>
      zob 8 v40 fun p42 i43 =>
      zb (zm25 v40 x1 h30) fun x47 h46 =>
      if x47 = 0 then
        some (.inl (7 : Int32), h46)
      else
        zb (zm47 x0 x1 h46) fun x50 h49 =>
        if x50 = 0 then
          some (.inl (7 : Int32), h49)
        else
          some (.inl (0 : Int32), h49)
  else
    some (.inl (0 : Int32), h)
theorem zmS45 {x0 : zq} {x1 : zq} {h : zH} {r : Int32 ⊕ Nat} {h' : zH} (H : zm45 x0 x1 h = some (r, h')) : zAt 45 0 [some (zrv x0), some (zrv x1)] [] h (zoI r) h' := by
  unfold zm45 at H
  refine zA_aldn rfl rfl rfl ?_
  obtain ⟨p21, i22, e23, c24, H⟩ := zob_e H
  refine zA_gf0 rfl rfl (Or.inl rfl) e23 c24 ?_
  rcases zite_e H with ⟨c25, H⟩ | ⟨c25, H⟩
  · refine zA_brT (c := (zi h p21 i22 10) ≤ 0) rfl rfl rfl c25 ?_
    refine zA_aldn rfl rfl rfl ?_
    refine zA_aldn rfl rfl rfl ?_
    refine zA_push rfl rfl zkk26 ?_
    obtain ⟨p26, i27, e28, c29, H⟩ := zob_e H
    rcases zb_e H with ⟨x31, h30, C, H⟩ | ⟨E, h30, C, H⟩
    · refine zA_callV (as := [zrv x0, zrv x1, zrv (none : zq)]) (st' := []) rfl rfl rfl (zrcv_Q e28 c29) rfl (zmE46 _ _ _) rfl (zmS46 C) ?_
      rcases zite_e H with ⟨c32, H⟩ | ⟨c32, H⟩
      · refine zA_brF' (c := x31 = 0) rfl rfl rfl c32 ?_
        refine zA_push rfl rfl zkk14 ?_
        cases H
        exact zA_ret rfl rfl
      · refine zA_brT' (c := x31 = 0) rfl rfl rfl c32 ?_
        refine zA_aldn rfl rfl rfl ?_
        refine zA_gf3 rfl rfl e28 c29 ?_
        refine zA_aldn rfl rfl rfl ?_
        refine zA_gf0 rfl rfl (Or.inl rfl) e23 c24 ?_
        obtain ⟨p33, i34, j35, v40, e36, c37, c38, e39, e41, H⟩ := zra_e H
        refine zA_aal rfl rfl e36 c37 c38 e39 e41 ?_
        refine zA_aldn rfl rfl rfl ?_
        obtain ⟨p42, i43, e44, c45, H⟩ := zob_e H
        rcases zb_e H with ⟨x47, h46, C, H⟩ | ⟨E, h46, C, H⟩
        · refine zA_callV (as := [zrv v40, zrv x1]) (st' := []) rfl rfl rfl (zrcv_Q e44 c45) rfl (zmE25 _ _) rfl (zmS25 C) ?_
          rcases zite_e H with ⟨c48, H⟩ | ⟨c48, H⟩
          · refine zA_brT (c := x47 = 0) rfl rfl rfl c48 ?_
            refine zA_tr (L := [none, none]) rfl rfl ?_
            refine zA_push rfl rfl zkk22 ?_
            cases H
            exact zA_ret rfl rfl
          · refine zA_brF (c := x47 = 0) rfl rfl rfl c48 ?_
            refine zA_aldn rfl rfl rfl ?_
            refine zA_aldn rfl rfl rfl ?_
            rcases zb_e H with ⟨x50, h49, C, H⟩ | ⟨E, h49, C, H⟩
            · refine zA_callV (as := [zrv x0, zrv x1]) (st' := []) rfl rfl rfl (zrcv_Q e28 c29) rfl (zmE47 _ _) rfl (zmS47 C) ?_
              rcases zite_e H with ⟨c51, H⟩ | ⟨c51, H⟩
              · refine zA_brF' (c := x50 = 0) rfl rfl rfl c51 ?_
                refine zA_tr (L := [none, none]) rfl rfl ?_
                refine zA_push rfl rfl zkk22 ?_
                cases H
                exact zA_ret rfl rfl
              · refine zA_brT' (c := x50 = 0) rfl rfl rfl c51 ?_
                refine zA_tr (L := [none, none]) rfl rfl ?_
                refine zA_push rfl rfl zkk7 ?_
                cases H
                exact zA_ret rfl rfl
            · cases H
              exact zA_callX (as := [zrv x0, zrv x1]) (st' := []) rfl rfl (zrcv_Q e28 c29) rfl (zmE47 _ _) rfl rfl rfl (zmS47 C)
        · cases H
          exact zA_callX (as := [zrv v40, zrv x1]) (st' := []) rfl rfl (zrcv_Q e44 c45) rfl (zmE25 _ _) rfl rfl rfl (zmS25 C)
    · cases H
      exact zA_callX (as := [zrv x0, zrv x1, zrv (none : zq)]) (st' := []) rfl rfl (zrcv_Q e28 c29) rfl (zmE46 _ _ _) rfl rfl rfl (zmS46 C)
  · refine zA_brF (c := (zi h p21 i22 10) ≤ 0) rfl rfl rfl c25 ?_
    refine zA_push rfl rfl zkk7 ?_
    cases H
    exact zA_ret rfl rfl
theorem zmE45 (x0 : zq) (x1 : zq) : zpad (zPr.2.1 45).1 (zil [zrv x0, zrv x1]) = [some (zrv x0), some (zrv x1)] := by
  simp only [zil_A, zil_I, zil_F, zil_D, zil_N]
  rfl
-- 44: ReleaseHouse.mayGo(I)I
def zm44 (x0 : zq) (x1 : Int32) (h : zH) : zRs Int32 :=
  zob 11 x0 fun p21 i22 =>
  zlz (zr h p21 i22 0) h fun v30 =>
  zb (zm130 x1 v30 h) fun _ h32 =>
  zlg (zr h32 p21 i22 0) x1 h32 fun v39 =>
  zob 0 v39 fun p41 i42 =>
  zb (zm45 x0 v39 h32) fun x46 h45 =>
  some (.inl x46, h45)
theorem zmS44 {x0 : zq} {x1 : Int32} {h : zH} {r : Int32 ⊕ Nat} {h' : zH} (H : zm44 x0 x1 h = some (r, h')) : zAt 44 0 [some (zrv x0), some (zI x1)] [] h (zoI r) h' := by
  unfold zm44 at H
  refine zA_ldn rfl rfl rfl ?_
  refine zA_aldn rfl rfl rfl ?_
  obtain ⟨p21, i22, e23, c24, H⟩ := zob_e H
  refine zA_gf3 rfl rfl e23 c24 ?_
  obtain ⟨p25, i26, v30, e27, c28, c29, e31, H⟩ := zlz_e H
  refine zA_l2 rfl rfl rfl e27 c28 c29 e31 ?_
  rcases zb_e H with ⟨u47, h32, C, H⟩ | ⟨E, h32, C, H⟩
  · refine zA_callU (as := [zI x1, zI v30]) (st' := []) rfl rfl rfl rfl rfl (zmE130 _ _) rfl (zmS130 C) ?_
    refine zA_aldn rfl rfl rfl ?_
    refine zA_aldn rfl rfl rfl ?_
    refine zA_gf3 rfl rfl e23 c24 ?_
    refine zA_ldn rfl rfl rfl ?_
    obtain ⟨p33, i34, v39, e35, c36, c37, c38, e40, H⟩ := zlg_e H
    refine zA_l3 rfl rfl rfl e35 c36 c37 c38 e40 ?_
    obtain ⟨p41, i42, e43, c44, H⟩ := zob_e H
    refine zA_cast rfl rfl e43 c44 ?_
    rcases zb_e H with ⟨x46, h45, C, H⟩ | ⟨E, h45, C, H⟩
    · refine zA_callV (as := [zrv x0, zrv v39]) (st' := []) rfl rfl rfl (zrcv_Q e23 c24) rfl (zmE45 _ _) rfl (zmS45 C) ?_
      cases H
      exact zA_ret rfl rfl
    · cases H
      exact zA_callX (as := [zrv x0, zrv v39]) (st' := []) rfl rfl (zrcv_Q e23 c24) rfl (zmE45 _ _) rfl rfl rfl (zmS45 C)
  · cases H
    exact zA_callX (as := [zI x1, zI v30]) (st' := []) rfl rfl rfl rfl (zmE130 _ _) rfl rfl rfl (zmS130 C)
theorem zmE44 (x0 : zq) (x1 : Int32) : zpad (zPr.2.1 44).1 (zil [zrv x0, zI x1]) = [some (zrv x0), some (zI x1)] := by
  simp only [zil_A, zil_I, zil_F, zil_D, zil_N]
  rfl
-- 244: ReleaseHouseLaw.mayGo(LReleaseHouse;I[J)I
def zm244 (x0 : zq) (x1 : Int32) (x2 : zq) (h : zH) : zRs Int32 :=
  zob 11 x0 fun p21 i22 =>
  zbH [(0, 7, 2, 1)] 4 (zm44 x0 x1 h) fun x26 h25 =>
  zar 3 x2 (0 : Int32) h25 fun p27 i28 j29 =>
  zlet (zsl h25 p27 i28 j29 (x26.toInt64)) fun h34 =>
  some (.inl (0 : Int32), h34)
theorem zmS244 {x0 : zq} {x1 : Int32} {x2 : zq} {h : zH} {r : Int32 ⊕ Nat} {h' : zH} (H : zm244 x0 x1 x2 h = some (r, h')) : zAt 244 0 [some (zrv x0), some (zI x1), some (zrv x2), none] [] h (zoI r) h' := by
  unfold zm244 at H
  refine zA_aldn rfl rfl rfl ?_
  refine zA_push rfl rfl zkk7 ?_
  refine zA_aldn rfl rfl rfl ?_
  refine zA_ldn rfl rfl rfl ?_
  obtain ⟨p21, i22, e23, c24, H⟩ := zob_e H
  rcases zbH_e H with ⟨x26, h25, C, H⟩ | ⟨E, h25, c36, C, hc, H⟩
  · refine zA_callV (as := [zrv x0, zI x1]) (st' := [zI (0 : Int32), zrv x2]) rfl rfl rfl (zrcv_Q e23 c24) rfl (zmE44 _ _) rfl (zmS44 C) ?_
    refine zA_st (st' := [zJ (x26.toInt64), zI (0 : Int32), zrv x2]) rfl rfl rfl rfl ?_
    obtain ⟨p27, i28, j29, e30, c31, c32, e33, H⟩ := zar_e H
    obtain ⟨h34, e35, H⟩ := zlet_e H
    refine zA_las rfl rfl e30 c31 c32 e33 e35 ?_
    refine zA_go rfl rfl ?_
    refine zA_tr (L := [none, none, none, none]) rfl rfl ?_
    refine zA_push rfl rfl zkk7 ?_
    cases H
    exact zA_ret rfl rfl
  · cases H
    exact zA_callH (as := [zrv x0, zI x1]) (st' := [zI (0 : Int32), zrv x2]) rfl rfl (zrcv_Q e23 c24) rfl (zmE44 _ _) rfl rfl rfl (List.cons_ne_nil _ _) hc (zmS44 C)
theorem zmE244 (x0 : zq) (x1 : Int32) (x2 : zq) : zpad (zPr.2.1 244).1 (zil [zrv x0, zI x1, zrv x2]) = [some (zrv x0), some (zI x1), some (zrv x2), none] := by
  simp only [zil_A, zil_I, zil_F, zil_D, zil_N]
  rfl
