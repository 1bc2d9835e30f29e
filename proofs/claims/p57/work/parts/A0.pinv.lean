set_option maxRecDepth 16384
/-! What every state of the law's calls keeps: no two live artefacts forbid each other; a candidate is newer than the stable one; what was stable ahead of a release is older than it. -/
theorem zrs_sy {s : zS} {a b : Int} (h : zrs s a b 0) : zrs s b a 0 := zrs_0.mp h
/-- the artefacts are the same -/
def zSa (s t : zS) : Prop := t 2 = s 2 ∧ t 3 = s 3 ∧ t 5 = s 5 ∧ t 6 = s 6 ∧ t 7 = s 7 ∧ t 8 = s 8 ∧ t 9 = s 9
theorem zSa.rs {s t : zS} (h : zSa s t) {a b v : Int} : zrs t a b v ↔ zrs s a b v := by
  obtain ⟨-, h3, h5, h6, h7, h8, h9⟩ := h
  unfold zrs
  rw [h3, h5, h6, h7, h8, h9]
theorem zSa.tr {s t u : zS} (a : zSa s t) (b : zSa t u) : zSa s u := by
  obtain ⟨a1, a2, a3, a4, a5, a6, a7⟩ := a
  obtain ⟨b1, b2, b3, b4, b5, b6, b7⟩ := b
  exact ⟨b1.trans a1, b2.trans a2, b3.trans a3, b4.trans a4, b5.trans a5, b6.trans a6, b7.trans a7⟩
def zJl (s : zS) : Prop := ∀ a b, 0 ≤ a → a < s 2 0 → 0 ≤ b → b < s 2 0 → a ≠ b → zlv s a (-1) → zlv s b (-1) → zrs s a b 0
def zJk (s : zS) : Prop := ∀ k, 0 ≤ k → k < 12 → s 13 k ≠ -1 → s 12 k < s 13 k
def zJu (s : zS) : Prop := ∀ r g, 0 ≤ r → r < s 30 0 → 0 ≤ g → g < 3 → s 41 (3 * r + g) = 1 → s 42 (3 * r + g) < s 31 r
def zJv (s : zS) : Prop := zJl s ∧ zJk s ∧ zJu s
theorem zJl_add {s t : zS} {n : Int} (hJ : zJl s) (e : zSa s t) (hl : ∀ a, 0 ≤ a → a < s 2 0 → zlv t a (-1) → zlv s a (-1) ∨ a = n) (hn : ∀ b, 0 ≤ b → b < s 2 0 → b ≠ n → zlv t b (-1) → zrs s n b 0) : zJl t := by
  intro a b a0 a1 b0 b1 ab la lb
  rw [e.1] at a1 b1
  rw [e.rs]
  by_cases ha : a = n
  · rw [ha]
    exact hn b b0 b1 (fun z => ab (ha.trans z.symm)) lb
  · by_cases hb : b = n
    · rw [hb]
      exact zrs_sy (hn a a0 a1 ha la)
    · exact hJ a b a0 a1 b0 b1 ab ((hl a a0 a1 la).resolve_right ha) ((hl b b0 b1 lb).resolve_right hb)
theorem zJl_le {s t : zS} (hJ : zJl s) (e : zSa s t) (hl : ∀ a, 0 ≤ a → a < s 2 0 → zlv t a (-1) → zlv s a (-1)) : zJl t := by
  intro a b a0 a1 b0 b1 ab la lb
  rw [e.1] at a1 b1
  rw [e.rs]
  exact hJ a b a0 a1 b0 b1 ab (hl a a0 a1 la) (hl b b0 b1 lb)
theorem zlv_1 {s : zS} {a : Int} : zlv s a (-1) ↔ (∃ g, 0 ≤ g ∧ g < 3 ∧ (s 12 (3 * s 3 a + g) = a ∨ s 13 (3 * s 3 a + g) = a)) ∨ ∃ c, 0 ≤ c ∧ c < 200 ∧ s 18 (200 * s 3 a + c) = a := by
  unfold zlv zxs zlvR zlvC
  constructor
  · rintro (⟨g, g0, g1, h⟩ | h)
    · exact Or.inl ⟨g, g0, g1, h.imp (fun z => z.1) id⟩
    · exact Or.inr h
  · rintro (⟨g, g0, g1, h⟩ | h)
    · exact Or.inl ⟨g, g0, g1, h.imp (fun z => ⟨z, by omega⟩) id⟩
    · exact Or.inr h
theorem zlv_le {s t : zS} {a : Int} (e3 : t 3 = s 3) (e12 : ∀ u, t 12 u = a → s 12 u = a) (e13 : ∀ u, t 13 u = a → s 13 u = a) (e18 : ∀ u, t 18 u = a → s 18 u = a) (h : zlv t a (-1)) : zlv s a (-1) := by
  rw [zlv_1] at h ⊢
  rw [e3] at h
  rcases h with ⟨g, g0, g1, h⟩ | ⟨c, c0, c1, h⟩
  · exact Or.inl ⟨g, g0, g1, h.imp (e12 _) (e13 _)⟩
  · exact Or.inr ⟨c, c0, c1, e18 _ h⟩
/-- the fields that count are the same -/
def zSj (s t : zS) : Prop := zSa s t ∧ t 12 = s 12 ∧ t 13 = s 13 ∧ t 18 = s 18 ∧ t 30 = s 30 ∧ t 31 = s 31 ∧ t 41 = s 41 ∧ t 42 = s 42
theorem zSj.of {s t : zS} (h : ∀ j, j ≠ 0 → j ≠ 1 → j ≠ 14 → j ≠ 15 → j ≠ 16 → j ≠ 17 → j ≠ 20 → j ≠ 24 → j ≠ 33 → j ≠ 34 → j ≠ 35 → j ≠ 37 → j ≠ 40 → j ≠ 43 → j ≠ 44 → j ≠ 45 → j ≠ 47 → j ≠ 60 → t j = s j) : zSj s t := by
  refine ⟨⟨?_, ?_, ?_, ?_, ?_, ?_, ?_⟩, ?_, ?_, ?_, ?_, ?_, ?_, ?_⟩ <;> exact h _ (by decide) (by decide) (by decide) (by decide) (by decide) (by decide) (by decide) (by decide) (by decide) (by decide) (by decide) (by decide) (by decide) (by decide) (by decide) (by decide) (by decide) (by decide)
theorem zSj.lv {s t : zS} (h : zSj s t) {a : Int} : zlv t a (-1) ↔ zlv s a (-1) := by
  obtain ⟨⟨-, h3, -⟩, h12, h13, h18, -⟩ := h
  rw [zlv_1, zlv_1, h3, h12, h13, h18]
theorem zSj.J {s t : zS} (h : zSj s t) (hJ : zJv s) : zJv t := by
  obtain ⟨j1, j2, j3⟩ := hJ
  refine ⟨zJl_le j1 h.1 (fun a _ _ => h.lv.mp), ?_, ?_⟩
  · obtain ⟨-, h12, h13, -⟩ := h
    unfold zJk
    rw [h12, h13]
    exact j2
  · obtain ⟨-, -, -, -, h30, h31, h41, h42⟩ := h
    unfold zJu
    rw [h30, h31, h41, h42]
    exact j3
-- candidates are dropped
theorem zlos_13 {s : zS} {a v : Int} : ∀ (n : Nat) (u : Int), zlos s a v n 13 u = s 13 u ∨ zlos s a v n 13 u = -1
  | 0, u => Or.inl rfl
  | n + 1, u => by
    have ih := zlos_13 (s := s) (a := a) (v := v) n u
    show (if (13 : Nat) = 13 ∧ u = 3 * v + (n : Int) then (if zlos s a v n 13 (3 * v + n) = a then -1 else zlos s a v n 13 (3 * v + n)) else zlos s a v n 13 u) = s 13 u ∨ (if (13 : Nat) = 13 ∧ u = 3 * v + (n : Int) then (if zlos s a v n 13 (3 * v + n) = a then -1 else zlos s a v n 13 (3 * v + n)) else zlos s a v n 13 u) = -1
    by_cases e : u = 3 * v + (n : Int)
    · rw [if_pos ⟨rfl, e⟩, ← e]
      by_cases c : zlos s a v n 13 u = a
      · rw [if_pos c]; exact Or.inr rfl
      · rw [if_neg c]; exact ih
    · rw [if_neg (fun z => e z.2)]
      exact ih
theorem zlos_j {s : zS} {a v : Int} {j : Nat} (h3 : j ≠ 13) (h4 : j ≠ 14) : ∀ n : Nat, zlos s a v n j = s j
  | 0 => rfl
  | n + 1 => by
    rw [← zlos_j (s := s) (a := a) (v := v) h3 h4 n]
    funext u
    show zlosS (zlos s a v n) a v n j u = _
    unfold zlosS zstS'
    rw [zup_j h4, zup_j h3]
    show (if j = 12 ∧ u = 3 * v + (n : Int) then zlos s a v n 12 (3 * v + (n : Int)) else zlos s a v n j u) = zlos s a v n j u
    split
    · rename_i e
      rw [e.1, e.2]
    · rfl
theorem zlos_lv {s : zS} {a v : Int} {n : Nat} {b : Int} (b0 : 0 ≤ b) (h : zlv (zlos s a v n) b (-1)) : zlv s b (-1) := by
  refine zlv_le (zlos_j (by decide) (by decide) n) (fun u z => ?_) (fun u z => ?_) (fun u z => ?_) h
  · rwa [zlos_j (by decide) (by decide) n] at z
  · rcases zlos_13 (s := s) (a := a) (v := v) n u with e | e
    · rwa [e] at z
    · omega
  · rwa [zlos_j (by decide) (by decide) n] at z
theorem zlos_sa {s : zS} {a v : Int} {n : Nat} : zSa s (zlos s a v n) := by
  refine ⟨?_, ?_, ?_, ?_, ?_, ?_, ?_⟩ <;> exact zlos_j (by decide) (by decide) n
theorem zlos_J {s : zS} {a v : Int} {n : Nat} (hJ : zJv s) : zJv (zlos s a v n) := by
  obtain ⟨j1, j2, j3⟩ := hJ
  refine ⟨zJl_le j1 zlos_sa (fun b b0 _ => zlos_lv b0), fun k k0 k1 hk => ?_, fun r g r0 r1 g0 g1 h => ?_⟩
  · rw [zlos_j (by decide) (by decide) n]
    rcases zlos_13 (s := s) (a := a) (v := v) n k with e | e
    · rw [e] at hk ⊢
      exact j2 k k0 k1 hk
    · exact absurd e hk
  · rw [zlos_j (by decide) (by decide) n] at r1 h
    rw [zlos_j (by decide) (by decide) n, zlos_j (by decide) (by decide) n]
    exact j3 r g r0 r1 g0 g1 h
-- it goes back
theorem zgbS_j {t : zS} {r g : Int} {j : Nat} (h : j ≠ 12) : zgbS t r g j = t j := by
  funext u
  exact zup_j h
theorem zgbS_J {t : zS} {r g : Int} (hJ : zJv t) (r0 : 0 ≤ r) (r1 : r < t 30 0) (g0 : 0 ≤ g) (g1 : g < 3) : zJv (zgbS t r g) := by
  by_cases c : zgbQ t r g ∧ zmr t (t 42 (3 * r + g)) (t 31 r) g
  · have hc := c
    obtain ⟨⟨q1, q2⟩, m1, m2, m3⟩ := c
    obtain ⟨j1, j2, j3⟩ := hJ
    have e12 : ∀ u, zgbS t r g 12 u = if u = 3 * t 3 (t 31 r) + g then t 42 (3 * r + g) else t 12 u := fun u => by
      unfold zgbS
      rw [zitp_t hc]
      by_cases e : u = 3 * t 3 (t 31 r) + g
      · rw [e, zup_s, if_pos rfl]
      · rw [zup_a e, if_neg e]
    have e3 : zgbS t r g 3 = t 3 := zgbS_j (by decide)
    have lv : ∀ b, b ≠ t 42 (3 * r + g) → zlv (zgbS t r g) b (-1) → (b = t 31 r ∧ zlv t (t 31 r) g) ∨ (b ≠ t 31 r ∧ zlv t b (-1)) := fun b hb h => by
      rw [zlv_1, e3, zgbS_j (j := 13) (by decide), zgbS_j (j := 18) (by decide)] at h
      by_cases e : b = t 31 r
      · refine Or.inl ⟨e, ?_⟩
        rw [e] at h hb
        unfold zlv zxs zlvR zlvC
        rcases h with ⟨g', g0', g1', h⟩ | h
        · refine Or.inl ⟨g', g0', g1', ?_⟩
          rcases h with h | h
          · rw [e12] at h
            by_cases d : g' = g
            · rw [d, if_pos rfl] at h
              exact absurd h.symm hb
            · rw [if_neg (by omega)] at h
              exact Or.inl ⟨h, d⟩
          · exact Or.inr h
        · exact Or.inr h
      · refine Or.inr ⟨e, zlv_1.mpr ?_⟩
        rcases h with ⟨g', g0', g1', h⟩ | h
        · refine Or.inl ⟨g', g0', g1', ?_⟩
          rcases h with h | h
          · rw [e12] at h
            split at h
            · exact absurd h.symm hb
            · exact Or.inl h
          · exact Or.inr h
        · exact Or.inr h
    have sa : zSa t (zgbS t r g) := by
      refine ⟨?_, ?_, ?_, ?_, ?_, ?_, ?_⟩ <;> exact zgbS_j (by decide)
    refine ⟨zJl_add (n := t 42 (3 * r + g)) j1 sa (fun b b0 b1 h => ?_) (fun b b0 b1 hb h => ?_), fun k k0 k1 hk => ?_, ?_⟩
    · by_cases hb : b = t 42 (3 * r + g)
      · exact Or.inr hb
      · refine Or.inl ?_
        rcases lv b hb h with ⟨e, h⟩ | ⟨-, h⟩
        · rw [e]
          unfold zlv zxs zlvR at h ⊢
          rcases h with ⟨g', g0', g1', h⟩ | h
          · exact Or.inl ⟨g', g0', g1', h.imp (fun z => ⟨z.1, by omega⟩) id⟩
          · exact Or.inr h
        · exact h
    · refine Classical.byContradiction fun z => m3 ⟨b, b0, b1, ?_, hb, z⟩
      exact lv b hb h
    · rw [zgbS_j (j := 13) (by decide)] at hk ⊢
      rw [e12]
      have k2 := j2 k k0 k1 hk
      split
      · rename_i e
        have := j3 r g r0 r1 g0 g1 q1
        rw [← e] at q2
        omega
      · exact k2
    · unfold zJu
      rw [zgbS_j (j := 30) (by decide), zgbS_j (j := 31) (by decide), zgbS_j (j := 41) (by decide), zgbS_j (j := 42) (by decide)]
      exact j3
  · have e : zgbS t r g = t := by
      funext j u
      unfold zgbS
      rw [zitp_f c]
      show (if j = 12 ∧ u = 3 * t 3 (t 31 r) + g then t 12 (3 * t 3 (t 31 r) + g) else t j u) = t j u
      split
      · rename_i e
        rw [e.1, e.2]
      · rfl
    rw [e]
    exact hJ
theorem zgb_j {s : zS} {r : Int} {j : Nat} (h : j ≠ 12) : ∀ n : Nat, zgb s r n j = s j
  | 0 => rfl
  | n + 1 => (zgbS_j h).trans (zgb_j h n)
theorem zgb_J {s : zS} {r : Int} (hJ : zJv s) (r0 : 0 ≤ r) (r1 : r < s 30 0) : ∀ n : Nat, n ≤ 3 → zJv (zgb s r n)
  | 0, _ => hJ
  | n + 1, hn => zgbS_J (zgb_J hJ r0 r1 n (by omega)) r0 (by rw [zgb_j (by decide) n]; exact r1) (by omega) (by omega)
theorem zen_sj {t : zS} {r a e : Int} {n : Nat} : zSj t (zen t r a e n) := zSj.of fun j _ _ _ _ _ _ _ _ h33 h34 h35 h37 _ _ _ _ _ _ => zen_j h33 h34 h35 h37 n
theorem zbkT_J {s : zS} {r : Int} (hJ : zJv s) (r0 : 0 ≤ r) (r1 : r < s 30 0) : zJv (zbkT s r) := by
  unfold zbkT
  exact zen_sj.J (zgb_J (zlos_J hJ) r0 (by rw [zlos_j (by decide) (by decide)]; exact r1) 3 (Nat.le_refl _))
theorem zlsT_J {s : zS} {r : Int} (hJ : zJv s) : zJv (zlsT s r) := by
  unfold zlsT
  exact zen_sj.J (zlos_J hJ)
-- it takes a spot
/-- it may live together with all that are live -/
def zJc (s : zS) (a : Int) : Prop := ∀ b, 0 ≤ b → b < s 2 0 → b ≠ a → zlv s b (-1) → zrs s a b 0
theorem zJc_lv {s : zS} {a : Int} (hJ : zJl s) (a0 : 0 ≤ a) (a1 : a < s 2 0) (h : zlv s a (-1)) : zJc s a := fun b b0 b1 hb hl => hJ a b a0 a1 b0 b1 (fun z => hb z.symm) h hl
theorem zJc_my {s : zS} {a : Int} (hJ : zJl s) (a0 : 0 ≤ a) (a1 : a < s 2 0) (h : zmyV s a 0) : zJc s a := by
  unfold zmyV at h
  rcases h with ⟨h, -⟩ | ⟨-, -, h⟩ | ⟨-, h, -⟩ | ⟨-, -, -, h⟩
  · exact zJc_lv hJ a0 a1 h
  · exact absurd h (by decide)
  · intro b b0 b1 hb hl
    exact Classical.byContradiction fun z => h ⟨b, b0, b1, hb, hl, z⟩
  · exact absurd h (by decide)
theorem zmyF_0 {s : zS} {a : Int} (h : zmyF s a = 0) : zmyV s a 0 := by
  by_cases h0 : zmyV s a 0
  · exact h0
  · have : ∃ v, zmyV s a v := by
      unfold zmyV
      by_cases c1 : zlv s a (-1)
      · exact ⟨0, Or.inl ⟨c1, rfl⟩⟩
      · by_cases c2 : zxs 0 (s 2 0) (zbad s a)
        · exact ⟨6, Or.inr (Or.inl ⟨c1, c2, rfl⟩)⟩
        · by_cases c3 : (s 6 a = 0 ∨ zxs 0 (s 2 0) (zoth s a)) ∧ zfd s a
          · exact ⟨0, Or.inr (Or.inr (Or.inl ⟨c1, c2, c3, rfl⟩))⟩
          · exact ⟨7, Or.inr (Or.inr (Or.inr ⟨c1, c2, c3, rfl⟩))⟩
    obtain ⟨v, hv⟩ := this
    rw [zmyF_e hv] at h
    rw [h] at hv
    exact hv
theorem zbr_J {s : zS} {r g sh : Int} (hJ : zJl s) (a0 : 0 ≤ s 31 r) (a1 : s 31 r < s 2 0) (h : zbr s r g sh = 0) (n1 : ¬ s 31 r < s 12 (3 * s 3 (s 31 r) + g)) (n2 : s 12 (3 * s 3 (s 31 r) + g) ≠ s 31 r) : zJc s (s 31 r) := by
  unfold zbr at h
  rw [zitp_f (fun z => z.elim n2 n1)] at h
  by_cases c1 : s 50 (s 3 (s 31 r)) ≠ 0
  · rw [zitp_t c1] at h
    exact absurd h (by decide)
  rw [zitp_f c1] at h
  by_cases c2 : zfz s r g
  · rw [zitp_t c2] at h
    exact absurd h (by decide)
  rw [zitp_f c2] at h
  by_cases c3 : zriv s (s 31 r) (3 * s 3 (s 31 r) + g)
  · rw [zitp_t c3] at h
    exact absurd h (by decide)
  rw [zitp_f c3] at h
  by_cases c4 : zroom s (s 3 (s 31 r)) g sh (zcn1 (zov s (s 31 r) (3 * s 3 (s 31 r) + g)))
  · rw [zitp_t c4] at h
    exact zJc_my hJ a0 a1 (zmyF_0 h)
  rw [zitp_f c4] at h
  exact absurd h (by decide)
theorem ztkS_12 {t : zS} {r g k a sh u : Int} : ztkS t r g k a sh 12 u = t 12 u ∨ ztkS t r g k a sh 12 u = a := by
  unfold ztkS
  by_cases c : sh = 0
  · rw [if_pos c]
    unfold zstS'
    rw [zup_j (by decide), zup_j (by decide)]
    by_cases e : u = k
    · rw [e, zup_s]; exact Or.inr rfl
    · rw [zup_a e]
      exact Or.inl ((zup_j (by decide)).trans (zup_j (by decide)))
  · rw [if_neg c]
    unfold zstS'
    rw [zup_j (by decide), zup_j (by decide)]
    by_cases e : u = k
    · rw [e, zup_s]; exact Or.inl rfl
    · rw [zup_a e]; exact Or.inl rfl
theorem ztkS_13 {t : zS} {r g k a sh u : Int} : ztkS t r g k a sh 13 u = t 13 u ∨ ztkS t r g k a sh 13 u = a ∨ ztkS t r g k a sh 13 u = -1 := by
  unfold ztkS
  by_cases c : sh = 0
  · rw [if_pos c]
    unfold zstS'
    rw [zup_j (by decide)]
    by_cases e : u = k
    · rw [e, zup_s]; exact Or.inr (Or.inr rfl)
    · rw [zup_a e]
      exact Or.inl ((zup_j (by decide)).trans ((zup_j (by decide)).trans (zup_j (by decide))))
  · rw [if_neg c]
    unfold zstS'
    rw [zup_j (by decide)]
    by_cases e : u = k
    · rw [e, zup_s]; exact Or.inr (Or.inl rfl)
    · rw [zup_a e]
      exact Or.inl (zup_j (by decide))
theorem ztkS_k {t : zS} {r g k a sh : Int} : (ztkS t r g k a sh 13 k = -1) ∨ (ztkS t r g k a sh 12 k = t 12 k ∧ ztkS t r g k a sh 13 k = a) := by
  unfold ztkS
  by_cases c : sh = 0
  · rw [if_pos c]
    unfold zstS'
    rw [zup_j (by decide), zup_s]
    exact Or.inl rfl
  · rw [if_neg c]
    unfold zstS'
    exact Or.inr ⟨(zup_j (by decide)).trans ((zup_j (by decide)).trans zup_s), (zup_j (by decide)).trans zup_s⟩
theorem ztkS_41 {t : zS} {r g k a sh u : Int} (h : ztkS t r g k a sh 41 u = 1) : t 41 u = 1 ∧ ztkS t r g k a sh 42 u = t 42 u ∨ u = 3 * r + g ∧ ztkS t r g k a sh 42 u = t 12 k := by
  unfold ztkS at h ⊢
  by_cases c : sh = 0
  · rw [if_pos c] at h ⊢
    unfold zstS' at h ⊢
    rw [zup_j (by decide), zup_j (by decide), zup_j (by decide), zup_j (by decide)] at h
    rw [zup_j (by decide), zup_j (by decide), zup_j (by decide)]
    by_cases e : u = 3 * r + g
    · rw [e, zup_s]
      exact Or.inr ⟨rfl, rfl⟩
    · rw [zup_a e] at h ⊢
      exact Or.inl ⟨h, zup_j (by decide)⟩
  · rw [if_neg c] at h ⊢
    unfold zstS' at h ⊢
    rw [zup_j (by decide), zup_j (by decide), zup_j (by decide)] at h ⊢
    exact Or.inl ⟨h, rfl⟩
theorem ztkS_J {t : zS} {r g k a sh : Int} (hJ : zJv t) (hc : zJc t a) (a0 : 0 ≤ a) (lt : t 12 k < a) (ha : t 31 r = a) (g0 : 0 ≤ g) (g1 : g < 3) : zJv (ztkS t r g k a sh) := by
  obtain ⟨j1, j2, j3⟩ := hJ
  have e : ∀ j, j ≠ 12 → j ≠ 13 → j ≠ 14 → j ≠ 41 → j ≠ 42 → ztkS t r g k a sh j = t j := fun j h1 h2 h3 h4 h5 => ztkS_j h1 h2 h3 h4 h5
  have sa : zSa t (ztkS t r g k a sh) := by
    refine ⟨?_, ?_, ?_, ?_, ?_, ?_, ?_⟩ <;> exact e _ (by decide) (by decide) (by decide) (by decide) (by decide)
  have lv : ∀ b, 0 ≤ b → b ≠ a → zlv (ztkS t r g k a sh) b (-1) → zlv t b (-1) := fun b b0 hb h => by
    refine zlv_le sa.2.1 (fun u z => ?_) (fun u z => ?_) (fun u z => ?_) h
    · rcases ztkS_12 (t := t) (r := r) (g := g) (k := k) (a := a) (sh := sh) (u := u) with d | d
      · rwa [d] at z
      · exact absurd (z.symm.trans d) hb
    · rcases ztkS_13 (t := t) (r := r) (g := g) (k := k) (a := a) (sh := sh) (u := u) with d | d | d
      · rwa [d] at z
      · exact absurd (z.symm.trans d) hb
      · omega
    · rwa [e 18 (by decide) (by decide) (by decide) (by decide) (by decide)] at z
  refine ⟨zJl_add (n := a) j1 sa (fun b b0 b1 h => ?_) (fun b b0 b1 hb h => hc b b0 b1 hb (lv b b0 hb h)), fun k' k0 k1 hk => ?_, fun r' g' r0 r1 g0' g1' h => ?_⟩
  · by_cases hb : b = a
    · exact Or.inr hb
    · exact Or.inl (lv b b0 hb h)
  · by_cases hkk : k' = k
    · rw [hkk] at hk ⊢
      rcases ztkS_k (t := t) (r := r) (g := g) (k := k) (a := a) (sh := sh) with d | ⟨d1, d2⟩
      · exact absurd d hk
      · rw [d1, d2]
        exact lt
    · obtain ⟨o1, o2, -⟩ := ztkS_o (t := t) (r := r) (g := g) (k := k) (a := a) (sh := sh) (u := k') hkk
      rw [o2] at hk ⊢
      rw [o1]
      exact j2 k' k0 k1 hk
  · rw [e 30 (by decide) (by decide) (by decide) (by decide) (by decide)] at r1
    rw [e 31 (by decide) (by decide) (by decide) (by decide) (by decide)]
    rcases ztkS_41 h with ⟨d1, d2⟩ | ⟨d1, d2⟩
    · rw [d2]
      exact j3 r' g' r0 r1 g0' g1' d1
    · rw [d2, show r' = r by omega, ha]
      exact lt
theorem zJc_le {s t : zS} {a : Int} (h : zJc s a) (e : zSa s t) (hl : ∀ b, 0 ≤ b → zlv t b (-1) → zlv s b (-1)) : zJc t a := fun b b0 b1 hb h1 => by
  rw [e.rs]
  rw [e.1] at b1
  exact h b b0 b1 hb (hl b b0 h1)
theorem zup33_sj {s : zS} {x y : Int} : zSj s (zup s 33 x y) := zSj.of fun j _ _ _ _ _ _ _ _ h33 _ _ _ _ _ _ _ _ _ => by
  funext u
  exact zup_j h33
theorem ztkT_J {s : zS} {r g v a sh : Int} (hJ : zJv s) (hc : zJc s a) (a0 : 0 ≤ a) (lt : s 12 (3 * v + g) < a) (ha : s 31 r = a) (g0 : 0 ≤ g) (g1 : g < 3) : zJv (ztkT s r g v a sh) := by
  unfold ztkT
  by_cases c : s 13 (3 * v + g) = -1 ∨ s 13 (3 * v + g) = a ∨ zrlI s (s 13 (3 * v + g)) (-1)
  · rw [zits_t c]
    exact ztkS_J hJ hc a0 lt ha g0 g1
  · rw [zits_f c]
    refine ztkS_J (zlos_J (zup33_sj.J hJ)) (zJc_le hc ((zup33_sj).1.tr zlos_sa) (fun b b0 h => zup33_sj.lv.mp (zlos_lv b0 h))) a0 ?_ ?_ g0 g1
    · rw [zlos_j (by decide) (by decide)]
      exact lt
    · rw [zlos_j (by decide) (by decide)]
      exact ha
/-- a step that puts goes on only where all may live together -/
def zJp (s : zS) (r : Int) : Prop := (s 27 (zit s r) = 0 ∨ s 27 (zit s r) = 4) → ¬ s 31 r < s 12 (3 * s 3 (s 31 r) + s 28 (zit s r)) → s 12 (3 * s 3 (s 31 r) + s 28 (zit s r)) ≠ s 31 r → zJc s (s 31 r)
theorem zrsn_J {s : zS} {r : Int} (hJ : zJl s) (a0 : 0 ≤ s 31 r) (a1 : s 31 r < s 2 0) (h : zrsn s r = 0) : zJp s r := by
  intro hk n1 n2
  unfold zrsn at h
  rcases hk with hk | hk
  · rw [if_pos hk] at h
    exact zbr_J hJ a0 a1 h n1 n2
  · rw [if_neg (by omega), if_neg (by omega), if_neg (by omega), if_neg (by omega), if_pos hk] at h
    exact zbr_J hJ a0 a1 h n1 n2
theorem zdoT_J {s : zS} {r : Int} (hW : zWf s) (hJ : zJv s) (r0 : 0 ≤ r) (r1 : r < s 30 0) (h33 : s 33 r = 0) (hp : zJp s r) : zJv (zdoT s r) := by
  have a0 := (hW.2.2.2.2.2.1.2.2 r r0 r1).1
  obtain ⟨q1, q2, q3, q4, q5, q6, q7, q8, q9, q10⟩ := zit_r hW.2.2.2.2.1 hW.2.2.2.2.2.1 r0 r1 (by omega)
  unfold zdoT
  by_cases c : s 27 (zit s r) = 0 ∨ s 27 (zit s r) = 4
  · rw [if_pos c]
    have g0 : 0 ≤ s 28 (zit s r) := (q7 (by omega)).1
    have g1 : s 28 (zit s r) < 3 := by have := q9 (by omega) (by omega) (by omega); omega
    by_cases n1 : s 31 r < s 12 (3 * s 3 (s 31 r) + s 28 (zit s r))
    · rw [if_pos n1]
      exact zlsT_J hJ
    · rw [if_neg n1]
      by_cases n2 : s 12 (3 * s 3 (s 31 r) + s 28 (zit s r)) = s 31 r
      · rw [if_pos n2]
        exact hJ
      · rw [if_neg n2]
        exact ztkT_J hJ (hp c n1 n2) a0.1 (by omega) rfl g0 g1
  · rw [if_neg c]
    by_cases c2 : s 27 (zit s r) = 2
    · rw [if_pos c2]
      by_cases c3 : zvd s (3 * s 3 (s 31 r) + s 28 (zit s r)) = 2
      · rw [if_pos c3]
        exact zbkT_J hJ r0 r1
      · rw [if_neg c3]
        exact hJ
    · rw [if_neg c2]
      exact hJ
theorem zre_sj {s : zS} {n : Nat} : zSj s (zre s n) := zSj.of fun j h0 _ _ h15 h16 h17 _ _ _ _ _ _ _ _ _ _ _ _ => (zre_j n).1 j h0 h15 h16 h17
theorem zco_sj {s t : zS} {n : Nat} : zSj t (zco s t n) := zSj.of fun j _ _ _ _ _ _ _ _ _ _ _ _ _ _ _ h45 h47 _ => (zco_j n).1 j h45 h47
theorem zJp_re {s : zS} {r : Int} {n : Nat} (h : zJp s r) : zJp (zre s n) r := by
  have f := (zre_j (s := s) n).1
  have e27 := f 27 (by decide) (by decide) (by decide) (by decide)
  have e28 := f 28 (by decide) (by decide) (by decide) (by decide)
  have e31 := f 31 (by decide) (by decide) (by decide) (by decide)
  have e32 := f 32 (by decide) (by decide) (by decide) (by decide)
  have e34 := f 34 (by decide) (by decide) (by decide) (by decide)
  have e12 := f 12 (by decide) (by decide) (by decide) (by decide)
  have e3 := f 3 (by decide) (by decide) (by decide) (by decide)
  have ei : zit (zre s n) r = zit s r := by
    unfold zit
    rw [e32, e34]
  intro h1 h2 h3
  rw [ei, e27] at h1
  rw [ei, e28, e31, e3, e12] at h2 h3
  rw [e31]
  exact zJc_le (h h1 h2 h3) zre_sj.1 (fun b _ z => zre_sj.lv.mp z)
theorem ztnT_J {s : zS} {r : Int} (hW : zWf s) (hJ : zJv s) (r0 : 0 ≤ r) (r1 : r < s 30 0) (h33 : s 33 r = 0) (hp : zJp s r) : zJv (ztnT s r) := by
  have f := (zre_j (s := s) 12).1
  have e30 := f 30 (by decide) (by decide) (by decide) (by decide)
  have e33 := f 33 (by decide) (by decide) (by decide) (by decide)
  unfold ztnT
  exact zco_sj.J (zdoT_J (hW.sc zre_sc) (zre_sj.J hJ) r0 (by rw [e30]; exact r1) (by rw [e33]; exact h33) (zJp_re hp))
theorem zph_sj {s : zS} {x y : Int} : zSj s (zph s x y) := zSj.of fun j _ _ _ _ _ _ _ _ _ _ _ _ _ h43 h44 _ _ _ => zph_j h43 h44
theorem zmvT_sj {s : zS} {r : Int} : zSj s (zmvT s r) := zSj.of fun j _ _ _ _ _ _ _ _ h33 h34 h35 h37 _ _ _ _ _ _ => zmvT_j h33 h34 h35 h37
theorem zttT_J {s : zS} {r : Int} (hW : zWf s) (hJ : zJv s) (r0 : 0 ≤ r) (r1 : r < s 30 0) (h33 : s 33 r = 0) (hp : zJp s r) : zJv (zttT s r) := by
  have T := ztnT_J hW hJ r0 r1 h33 hp
  unfold zttT
  by_cases c1 : s 44 0 = 1
  · rw [if_pos c1]
    exact zph_sj.J hJ
  · rw [if_neg c1]
    by_cases c2 : s 44 0 = 2
    · rw [if_pos c2]
      exact zph_sj.J T
    · rw [if_neg c2]
      by_cases c3 : 1 < ztnT s r 33 r
      · rw [if_pos c3]
        exact T
      · rw [if_neg c3]
        exact zmvT_sj.J T
