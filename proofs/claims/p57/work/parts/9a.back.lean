set_option maxRecDepth 16384
/-! May the one before come back: both sides. -/
def zmrP (s : zS) (p a g b : Int) : Prop := ((b = a ∧ zlv s a g) ∨ (b ≠ a ∧ zlv s b (-1))) ∧ b ≠ p ∧ ¬ zrs s p b 0
def zmr (s : zS) (p a g : Int) : Prop := p ≠ -1 ∧ zfd s p ∧ ¬ zxs 0 (s 2 0) (zmrP s p a g)
/-- a spot's stable and candidate are written -/
theorem zWk_st {s : zS} {k st cd sh : Int} (hK : zWk s) (t : -1 ≤ st ∧ st < s 2 0) (c : -1 ≤ cd ∧ cd < s 2 0) (hs : 0 ≤ sh ∧ sh ≤ 100) (hc : cd = -1 ↔ sh = 0) (vt : st ≠ -1 → s 3 st = k / 3) (vc : cd ≠ -1 → s 3 cd = k / 3) : zWk (zstS' s k st cd sh) := by
  intro u u0 u1
  have e12 : zstS' s k st cd sh 12 u = if u = k then st else s 12 u := by
    show zup s 12 k st 12 u = _
    exact zif_u
  have e13 : zstS' s k st cd sh 13 u = if u = k then cd else s 13 u := by
    show zup s 13 k cd 13 u = _
    exact zif_u
  have e14 : zstS' s k st cd sh 14 u = if u = k then sh else s 14 u := by
    show zup s 14 k sh 14 u = _
    exact zif_u
  rw [e12, e13, e14]
  by_cases e : u = k
  · rw [if_pos e, if_pos e, if_pos e, e]
    exact ⟨t, c, hs, hc, vt, vc⟩
  · rw [if_neg e, if_neg e, if_neg e]
    exact hK u u0 u1
theorem zus_1 {s : zS} (hA : zWa s) (hK : zWk s) (hC : zWc s) {a g : Int} (a0 : 0 ≤ a) (a1 : a < s 2 0) (g0 : 0 ≤ g) (g1 : g < 3) (e : s 12 (3 * s 3 a + g) = a) : zus s a = 1 ↔ ¬ zlv s a g := by
  have hv := (hA.2 a a0 a1).1
  have hk := hK (3 * s 3 a + g) (by omega) (by omega)
  have hK' : zWk (zstS' s (3 * s 3 a + g) (-1) (s 13 (3 * s 3 a + g)) (s 14 (3 * s 3 a + g))) := zWk_st hK (by omega) hk.2.1 hk.2.2.1 hk.2.2.2.1 (fun z => absurd rfl z) hk.2.2.2.2.2
  have u1 := zstS'_u (s := s) (k := 3 * s 3 a + g) (st := -1) (cd := s 13 (3 * s 3 a + g)) (sh := s 14 (3 * s 3 a + g)) (by omega) (by omega) a
  rw [if_pos e, if_neg (show ¬ (-1 : Int) = a by omega)] at u1
  have u2 : zus (zstS' s (3 * s 3 a + g) (-1) (s 13 (3 * s 3 a + g)) (s 14 (3 * s 3 a + g))) a = zus s a - 1 := by
    by_cases c : s 13 (3 * s 3 a + g) = a
    · rw [if_pos c, if_pos c] at u1
      omega
    · rw [if_neg c, if_neg c] at u1
      omega
  have p := zus_p (s := zstS' s (3 * s 3 a + g) (-1) (s 13 (3 * s 3 a + g)) (s 14 (3 * s 3 a + g))) hA hK' hC a0 a1
  rw [u2] at p
  have l : zlv (zstS' s (3 * s 3 a + g) (-1) (s 13 (3 * s 3 a + g)) (s 14 (3 * s 3 a + g))) a (-1) ↔ zlv s a g := by
    unfold zlv
    refine or_congr (zxs.cg fun r r0 r1 => ?_) (zxs.cg fun c _ _ => Iff.rfl)
    show (zup s 12 (3 * s 3 a + g) (-1) 12 (3 * s 3 a + r) = a ∧ r ≠ -1 ∨ zup s 13 (3 * s 3 a + g) (s 13 (3 * s 3 a + g)) 13 (3 * s 3 a + r) = a) ↔ zlvR s a g r
    rw [zif_u, zif_u]
    unfold zlvR
    by_cases c : r = g
    · rw [c, if_pos rfl, if_pos rfl]
      exact ⟨fun z => z.elim (fun z => by omega) Or.inr, fun z => z.elim (fun z => absurd rfl z.2) Or.inr⟩
    · rw [if_neg (show ¬ 3 * s 3 a + r = 3 * s 3 a + g by omega), if_neg (show ¬ 3 * s 3 a + r = 3 * s 3 a + g by omega)]
      exact or_congr ⟨fun z => ⟨z.1, c⟩, fun z => ⟨z.1, by omega⟩⟩ Iff.rfl
  rw [l] at p
  have q : 0 < zus s a := by
    rw [zus_p hA hK hC a0 a1]
    exact Or.inl ⟨g, g0, g1, Or.inl ⟨e, by omega⟩⟩
  rw [← p]
  omega
theorem zmr_e {s : zS} (hA : zWa s) (hK : zWk s) (hC : zWc s) {p a g w : Int} (a0 : 0 ≤ a) (a1 : a < s 2 0) (g0 : 0 ≤ g) (g1 : g < 3) (e : s 12 (3 * s 3 a + g) = a) (hw : (zus s a = 1 ∧ w = a) ∨ (zus s a ≠ 1 ∧ w = -1)) : zxs 0 (s 2 0) (zfi2 s p w) ↔ zxs 0 (s 2 0) (zmrP s p a g) := by
  have h1 := zus_1 hA hK hC a0 a1 g0 g1 e
  refine zxs.cg fun b b0 b1 => ?_
  unfold zfi2 zmrP
  by_cases c : b = a
  · subst c
    constructor
    · rintro ⟨z1, z2, z3, z4⟩
      refine ⟨Or.inl ⟨rfl, ?_⟩, z2, z4⟩
      rcases hw with hw | hw
      · exact absurd hw.2.symm z3
      · exact Classical.not_not.mp fun q => hw.1 (h1.mpr q)
    · rintro ⟨⟨-, z1⟩ | ⟨z1, -⟩, z2, z3⟩
      · refine ⟨Or.inl ⟨g, g0, g1, Or.inl ⟨e, by omega⟩⟩, z2, ?_, z3⟩
        rcases hw with hw | hw
        · exact absurd z1 (h1.mp hw.1)
        · omega
      · exact absurd rfl z1
  · constructor
    · rintro ⟨z1, z2, z3, z4⟩
      exact ⟨Or.inr ⟨c, z1⟩, z2, z4⟩
    · rintro ⟨⟨z1, -⟩ | ⟨-, z1⟩, z2, z3⟩
      · exact absurd z1 c
      · refine ⟨z1, z2, ?_, z3⟩
        rcases hw with hw | hw <;> omega

