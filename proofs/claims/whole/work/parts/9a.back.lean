set_option maxRecDepth 16384
/-! May the one before come back: both sides. -/
def zmrP (s : zS) (p a g b : Int) : Prop := ((b = a ∧ zlv s a g) ∨ (b ≠ a ∧ zlv s b (-1))) ∧ b ≠ p ∧ ¬ zrs s p b 0
def zmr (s : zS) (p a g : Int) : Prop := p ≠ -1 ∧ zfd s p ∧ ¬ zxs 0 (s 2 0) (zmrP s p a g)
theorem zp177_31 {h : zH} {s : zS} (hM : zMd h s) (hA : zWa s) {k : zq → Int32 → Int32 → Int32 → Int32 → Int32 → zH → zRs Int32} {p a g i l : Int} {L : Prop} (p0 : 0 ≤ p) (p1 : p < s 2 0) (i0 : 0 ≤ i) (i1 : i < s 2 0) (hl : zbo l L) :
    ∃ b', zbo b' (¬ (L ∧ i ≠ p ∧ ¬ zrs s p i 0)) ∧ zm177_31 k (some (13, 0)) (zE p) (zE a) (zE g) (zE i) (zE l) h = k (some (13, 0)) (zE p) (zE a) (zE g) (zE b') (zE (i + 1)) h := by
  have hn := hA.1
  have z1 : ¬ zE 1 = zE 0 := by decide
  have ei : (zE i = zE p) = (i = p) := zE_inj (by omega) (by omega) (by omega) (by omega)
  by_cases e : i = p
  · refine ⟨1, zbo_1 (fun z => z.2.1 e), ?_⟩
    rw [zm177_31, if_pos (by rw [e]), zm177_45, zlet_s, zE_1, zE_add]
  · rcases hl with ⟨rfl, hl⟩ | ⟨rfl, hl⟩
    · obtain ⟨v, v1, v2⟩ := zp146 hM hA p0 p1 i0 i1
      have vr := zrs_r v1
      rw [zm177_31, if_neg (by rw [ei]; exact e), zE_0, if_neg z1, zM_ob, v2, zb_s]
      by_cases e4 : v = 0
      · subst e4
        refine ⟨1, zbo_1 (fun z => z.2.2 v1), ?_⟩
        rw [if_pos rfl, zm177_45, zlet_s, zE_1, zE_add]
      · refine ⟨0, zbo_0 (fun z => z ⟨hl, e, fun q => e4 (zrs_u v1 q)⟩), ?_⟩
        rw [if_neg (by rw [zE_inj (by omega) (by omega) (by omega) (by omega)]; exact e4), zm177_45, zlet_s, zE_1, zE_add]
    · refine ⟨1, zbo_1 (fun z => hl z.1), ?_⟩
      rw [zm177_31, if_neg (by rw [ei]; exact e), if_pos zE_0.symm, zm177_45, zlet_s, zE_1, zE_add]
theorem zp177_13 {h : zH} {s : zS} (hM : zMd h s) (hA : zWa s) (hK : zWk s) (hC : zWc s) {p a g b0 : Int} {Q : Prop} (hp : Q → 0 ≤ p ∧ p < s 2 0) (a0 : 0 ≤ a) (a1 : a < s 2 0) (g0 : 0 ≤ g) (g1 : g < 3) (hb0 : zbo b0 Q) :
    ∃ b', zbo b' (Q ∧ ¬ zxs 0 (s 2 0) (zmrP s p a g)) ∧ zm177_13 zN0 (some (13, 0)) (zE p) (zE a) (zE g) (zE b0) (zE 0) h = some (.inl (zE b'), h) := by
  have hn := hA.1
  have z1 : ¬ zE 1 = zE 0 := by decide
  refine zloop0 (W := fun n i b => zm177_13 n (some (13, 0)) (zE p) (zE a) (zE g) (zE b) (zE i) h) (N := s 2 0) (fun i b => zbo b (Q ∧ ¬ zxs 0 i (zmrP s p a g))) (fun r => ∃ b', zbo b' (Q ∧ ¬ zxs 0 (s 2 0) (zmrP s p a g)) ∧ r = some (.inl (zE b'), h)) b0 (hb0.cg ⟨fun z => ⟨z, zxs_n⟩, fun z => z.1⟩) (by omega) (by omega) ?_ ?_
  · intro n b hb
    refine ⟨b, hb, ?_⟩
    rw [zm177_13, zM_ob, if_pos (by rw [zMs2 hM]; exact Int32.le_refl _), zif_s hb.e]
  · intro n i b h1 h2 hb
    have h3 : ¬ zE (s 2 0) ≤ zE i := by rw [zE_le (by omega) (by omega) (by omega) (by omega)]; omega
    rcases hb with ⟨rfl, hQ, hb⟩ | ⟨rfl, hb⟩
    · obtain ⟨p0, p1⟩ := hp hQ
      have L : ∃ l, zbo l ((i = a ∧ zlv s a g) ∨ (i ≠ a ∧ zlv s i (-1))) ∧ zm177_13 (n + 1) (some (13, 0)) (zE p) (zE a) (zE g) (zE 1) (zE i) h = zm177_31 (zm177_13 n) (some (13, 0)) (zE p) (zE a) (zE g) (zE i) (zE l) h := by
        by_cases e : i = a
        · obtain ⟨l, l1, l2⟩ := zp148 hM hA hK hC (a := i) (w := g) (by omega) (by omega) (by omega)
          refine ⟨l, l1.cg ⟨fun z => Or.inl ⟨e, e ▸ z⟩, fun z => z.elim (fun z => e.symm ▸ z.2) (fun z => absurd e z.1)⟩, ?_⟩
          rw [zm177_13, zM_ob, if_neg (by rw [zMs2 hM]; exact h3), zE_0, if_neg z1, if_pos (by rw [e]), l2, zb_s]
        · obtain ⟨l, l1, l2⟩ := zp148 hM hA hK hC (a := i) (w := -1) (by omega) (by omega) (by omega)
          refine ⟨l, l1.cg ⟨fun z => Or.inr ⟨e, z⟩, fun z => z.elim (fun z => absurd z.1 e) (fun z => z.2)⟩, ?_⟩
          rw [zm177_13, zM_ob, if_neg (by rw [zMs2 hM]; exact h3), zE_0, if_neg z1, if_neg (by rw [zE_inj (by omega) (by omega) (by omega) (by omega)]; exact e), zE_m1, l2, zb_s]
      obtain ⟨l, l1, l2⟩ := L
      obtain ⟨b', b1, b2⟩ := zp177_31 hM hA (k := zm177_13 n) (a := a) (g := g) p0 p1 h1 h2 l1
      refine Or.inr ⟨b', b1.cg ?_, l2.trans b2⟩
      rw [zxs_s h1]
      exact ⟨fun z => ⟨hQ, fun q => q.elim hb z⟩, fun z q => z.2 (Or.inr q)⟩
    · refine Or.inl ⟨0, zbo_0 (fun z => hb ⟨z.1, fun ⟨r, r0, r1, r2⟩ => z.2 ⟨r, r0, by omega, r2⟩⟩), ?_⟩
      rw [zm177_13, zM_ob, if_neg (by rw [zMs2 hM]; exact h3), if_pos zE_0.symm, zif_s (Or.inl zE_0.symm)]
theorem zp177 {h : zH} {s : zS} (hM : zMd h s) (hA : zWa s) (hK : zWk s) (hC : zWc s) (hD : zWd s) {p a g : Int} (p0 : -1 ≤ p) (p1 : p < s 2 0) (a0 : 0 ≤ a) (a1 : a < s 2 0) (g0 : 0 ≤ g) (g1 : g < 3) :
    ∃ b, zbo b (zmr s p a g) ∧ zm177 (some (13, 0)) (zE p) (zE a) (zE g) h = some (.inl (zE b), h) := by
  have hn := hA.1
  have z1 : ¬ zE 1 = zE 0 := by decide
  by_cases e : p = -1
  · obtain ⟨b, b1, b2⟩ := zp177_13 hM hA hK hC (p := p) (Q := False) (fun z => z.elim) a0 a1 g0 g1 (zbo_0 id)
    refine ⟨b, b1.cg ⟨fun z => z.1.elim, fun z => (z.1 e).elim⟩, ?_⟩
    rw [zm177, if_pos (by rw [e, zE_m1]), zm177_10, zE_0]
    exact b2
  · obtain ⟨d, d1, d2⟩ := zp150 hM hA hD (a := p) (by omega) p1
    obtain ⟨b, b1, b2⟩ := zp177_13 hM hA hK hC (p := p) (fun _ => ⟨by omega, p1⟩) a0 a1 g0 g1 d1
    refine ⟨b, b1.cg ⟨fun z => ⟨e, z⟩, fun z => z.2⟩, ?_⟩
    rw [zm177, if_neg (by rw [zE_m1, zE_inj (by omega) (by omega) (by omega) (by omega)]; exact e), zM_ob, d2, zb_s]
    rcases d1 with ⟨rfl, -⟩ | ⟨rfl, -⟩
    · rw [zE_0, if_neg z1, zm177_10, zE_1]
      exact b2
    · rw [zE_0, if_pos rfl, zm177_10]
      exact b2
/-- a spot's stable and candidate are written -/
theorem zWk_st {s : zS} {k st cd sh : Int} (hK : zWk s) (t : -1 ≤ st ∧ st < s 2 0) (c : -1 ≤ cd ∧ cd < s 2 0) (hs : 0 ≤ sh ∧ sh ≤ 100) (hc : cd = -1 ↔ sh = 0) (vt : st ≠ -1 → s 3 st = k / 3) (vc : cd ≠ -1 → s 3 cd = k / 3) : zWk (zstS' s k st cd sh) := by
  intro u u0 u1
  have e12 : zstS' s k st cd sh 12 u = if u = k then st else s 12 u := by
    show zup s 12 k st 12 u = _
    exact zif_u
  have e13 : zstS' s k st cd sh 13 u = if u = k then cd else s 13 u := by
    show zup s 13 k cd 13 u = _
    exact zif_u
  have e14 : zstS' s k st cd sh 14 u = if u = k then sh else s 14 u := by
    show zup s 14 k sh 14 u = _
    exact zif_u
  rw [e12, e13, e14]
  by_cases e : u = k
  · rw [if_pos e, if_pos e, if_pos e, e]
    exact ⟨t, c, hs, hc, vt, vc⟩
  · rw [if_neg e, if_neg e, if_neg e]
    exact hK u u0 u1
theorem zus_1 {s : zS} (hA : zWa s) (hK : zWk s) (hC : zWc s) {a g : Int} (a0 : 0 ≤ a) (a1 : a < s 2 0) (g0 : 0 ≤ g) (g1 : g < 3) (e : s 12 (3 * s 3 a + g) = a) : zus s a = 1 ↔ ¬ zlv s a g := by
  have hv := (hA.2 a a0 a1).1
  have hk := hK (3 * s 3 a + g) (by omega) (by omega)
  have hK' : zWk (zstS' s (3 * s 3 a + g) (-1) (s 13 (3 * s 3 a + g)) (s 14 (3 * s 3 a + g))) := zWk_st hK (by omega) hk.2.1 hk.2.2.1 hk.2.2.2.1 (fun z => absurd rfl z) hk.2.2.2.2.2
  have u1 := zstS'_u (s := s) (k := 3 * s 3 a + g) (st := -1) (cd := s 13 (3 * s 3 a + g)) (sh := s 14 (3 * s 3 a + g)) (by omega) (by omega) a
  rw [if_pos e, if_neg (show ¬ (-1 : Int) = a by omega)] at u1
  have u2 : zus (zstS' s (3 * s 3 a + g) (-1) (s 13 (3 * s 3 a + g)) (s 14 (3 * s 3 a + g))) a = zus s a - 1 := by
    by_cases c : s 13 (3 * s 3 a + g) = a
    · rw [if_pos c, if_pos c] at u1
      omega
    · rw [if_neg c, if_neg c] at u1
      omega
  have p := zus_p (s := zstS' s (3 * s 3 a + g) (-1) (s 13 (3 * s 3 a + g)) (s 14 (3 * s 3 a + g))) hA hK' hC a0 a1
  rw [u2] at p
  have l : zlv (zstS' s (3 * s 3 a + g) (-1) (s 13 (3 * s 3 a + g)) (s 14 (3 * s 3 a + g))) a (-1) ↔ zlv s a g := by
    unfold zlv
    refine or_congr (zxs.cg fun r r0 r1 => ?_) (zxs.cg fun c _ _ => Iff.rfl)
    show (zup s 12 (3 * s 3 a + g) (-1) 12 (3 * s 3 a + r) = a ∧ r ≠ -1 ∨ zup s 13 (3 * s 3 a + g) (s 13 (3 * s 3 a + g)) 13 (3 * s 3 a + r) = a) ↔ zlvR s a g r
    rw [zif_u, zif_u]
    unfold zlvR
    by_cases c : r = g
    · rw [c, if_pos rfl, if_pos rfl]
      exact ⟨fun z => z.elim (fun z => by omega) Or.inr, fun z => z.elim (fun z => absurd rfl z.2) Or.inr⟩
    · rw [if_neg (show ¬ 3 * s 3 a + r = 3 * s 3 a + g by omega), if_neg (show ¬ 3 * s 3 a + r = 3 * s 3 a + g by omega)]
      exact or_congr ⟨fun z => ⟨z.1, c⟩, fun z => ⟨z.1, by omega⟩⟩ Iff.rfl
  rw [l] at p
  have q : 0 < zus s a := by
    rw [zus_p hA hK hC a0 a1]
    exact Or.inl ⟨g, g0, g1, Or.inl ⟨e, by omega⟩⟩
  rw [← p]
  omega
theorem zmr_e {s : zS} (hA : zWa s) (hK : zWk s) (hC : zWc s) {p a g w : Int} (a0 : 0 ≤ a) (a1 : a < s 2 0) (g0 : 0 ≤ g) (g1 : g < 3) (e : s 12 (3 * s 3 a + g) = a) (hw : (zus s a = 1 ∧ w = a) ∨ (zus s a ≠ 1 ∧ w = -1)) : zxs 0 (s 2 0) (zfi2 s p w) ↔ zxs 0 (s 2 0) (zmrP s p a g) := by
  have h1 := zus_1 hA hK hC a0 a1 g0 g1 e
  refine zxs.cg fun b b0 b1 => ?_
  unfold zfi2 zmrP
  by_cases c : b = a
  · subst c
    constructor
    · rintro ⟨z1, z2, z3, z4⟩
      refine ⟨Or.inl ⟨rfl, ?_⟩, z2, z4⟩
      rcases hw with hw | hw
      · exact absurd hw.2.symm z3
      · exact Classical.not_not.mp fun q => hw.1 (h1.mpr q)
    · rintro ⟨⟨-, z1⟩ | ⟨z1, -⟩, z2, z3⟩
      · refine ⟨Or.inl ⟨g, g0, g1, Or.inl ⟨e, by omega⟩⟩, z2, ?_, z3⟩
        rcases hw with hw | hw
        · exact absurd z1 (h1.mp hw.1)
        · omega
      · exact absurd rfl z1
  · constructor
    · rintro ⟨z1, z2, z3, z4⟩
      exact ⟨Or.inr ⟨c, z1⟩, z2, z4⟩
    · rintro ⟨⟨z1, -⟩ | ⟨-, z1⟩, z2, z3⟩
      · exact absurd z1 c
      · refine ⟨z1, z2, ?_, z3⟩
        rcases hw with hw | hw <;> omega
