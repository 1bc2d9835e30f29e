set_option maxRecDepth 16384
/-! Dead or not, armed or not: what a step does is the same. -/
def zph (s : zS) (x y : Int) : zS := zup (zup s 43 0 x) 44 0 y
theorem zup_cm {s : zS} {j j' : Nat} {a v a' v' : Int} (e : j ≠ j') : zup (zup s j a v) j' a' v' = zup (zup s j' a' v') j a v := by
  funext k u
  unfold zup
  by_cases c : k = j' ∧ u = a'
  · rw [if_pos c, if_neg (fun z => e (z.1.symm.trans c.1)), if_pos c]
  · rw [if_neg c, if_neg c]
theorem zph_u {t : zS} {j : Nat} {a v x y : Int} (h : j ≠ 43) (h1 : j ≠ 44) : zph (zup t j a v) x y = zup (zph t x y) j a v := by
  unfold zph
  rw [zup_cm h, zup_cm h1]
theorem zph_j {s : zS} {x y : Int} {j : Nat} (h : j ≠ 43) (h1 : j ≠ 44) : zph s x y j = s j := by
  funext u
  exact (zup_j h1).trans (zup_j h)
theorem zph_st {t : zS} {k st cd sh x y : Int} : zph (zstS' t k st cd sh) x y = zstS' (zph t x y) k st cd sh := by
  unfold zstS'
  rw [zph_u (by decide) (by decide), zph_u (by decide) (by decide), zph_u (by decide) (by decide)]
theorem zph_W {s : zS} {x y : Int} (hW : zWf s) (hx : 0 ≤ x ∧ x ≤ 1) (hy : 0 ≤ y ∧ y ≤ 2) (hxy : x = 1 → y = 0) : zWf (zph s x y) := by
  obtain ⟨wA, wK, wC, wD, wP, wR, wZ, wT, wG, wE, wM, wX⟩ := hW
  exact ⟨wA, wK, wC, wD, wP, wR, wZ, wT, wG, wE, wM, hx, hy, hxy, wX.2.2.2⟩
theorem zph_losS {t : zS} {a v g x y : Int} : zlosS (zph t x y) a v g = zph (zlosS t a v g) x y := by
  unfold zlosS
  rw [zph_st]
  rfl
theorem zph_los {s : zS} {a v x y : Int} : ∀ n : Nat, zlos (zph s x y) a v n = zph (zlos s a v n) x y
  | 0 => rfl
  | n + 1 => by
    show zlosS (zlos (zph s x y) a v n) a v n = zph (zlosS (zlos s a v n) a v n) x y
    rw [zph_los n, zph_losS]
theorem zph_gbS {t : zS} {r g x y : Int} : zgbS (zph t x y) r g = zph (zgbS t r g) x y := by
  unfold zgbS
  rw [zph_u (by decide) (by decide)]
  rfl
theorem zph_gb {s : zS} {r x y : Int} : ∀ n : Nat, zgb (zph s x y) r n = zph (zgb s r n) x y
  | 0 => rfl
  | n + 1 => by
    show zgbS (zgb (zph s x y) r n) r n = zph (zgbS (zgb s r n) r n) x y
    rw [zph_gb n, zph_gbS]
theorem zph_enS {t : zS} {a i x y : Int} : zenS (zph t x y) a i = zph (zenS t a i) x y := by
  have e : zenS (zph t x y) a i = if t 10 a ≠ 0 ∧ t 33 i = 1 ∧ t 3 (t 31 i) = t 3 a then zup (zup (zup (zup (zph t x y) 33 i 0) 34 i 0) 35 i (t 1 0)) 37 i 0 else zph t x y := rfl
  rw [e]
  unfold zenS
  by_cases c : t 10 a ≠ 0 ∧ t 33 i = 1 ∧ t 3 (t 31 i) = t 3 a
  · rw [if_pos c, if_pos c, zph_u (by decide) (by decide), zph_u (by decide) (by decide), zph_u (by decide) (by decide), zph_u (by decide) (by decide)]
  · rw [if_neg c, if_neg c]
theorem zph_en {t : zS} {r a e x y : Int} : ∀ n : Nat, zen (zph t x y) r a e n = zph (zen t r a e n) x y
  | 0 => by
    show zup (zph t x y) 33 r e = zph (zup t 33 r e) x y
    rw [zph_u (by decide) (by decide)]
  | n + 1 => by
    show zenS (zen (zph t x y) r a e n) a n = zph (zenS (zen t r a e n) a n) x y
    rw [zph_en n, zph_enS]
theorem zph_tkS {t : zS} {r g k a sh x y : Int} : ztkS (zph t x y) r g k a sh = zph (ztkS t r g k a sh) x y := by
  have e : ztkS (zph t x y) r g k a sh = if sh = 0 then zstS' (zup (zup (zph t x y) 41 (3 * r + g) 1) 42 (3 * r + g) (t 12 k)) k a (-1) 0 else zstS' (zph t x y) k (t 12 k) a sh := rfl
  rw [e]
  unfold ztkS
  by_cases c : sh = 0
  · rw [if_pos c, if_pos c, zph_st, zph_u (by decide) (by decide), zph_u (by decide) (by decide)]
  · rw [if_neg c, if_neg c, zph_st]
theorem zph_lsT {s : zS} {r x y : Int} : zlsT (zph s x y) r = zph (zlsT s r) x y := by
  have e : zlsT (zph s x y) r = zen (zlos (zph s x y) (s 31 r) (s 3 (s 31 r)) 3) r (s 31 r) 4 (zlos (zph s x y) (s 31 r) (s 3 (s 31 r)) 3 30 0).toNat := rfl
  rw [e, zph_los, zph_en, zph_j (by decide) (by decide)]
  rfl
theorem zph_bkT {s : zS} {r x y : Int} : zbkT (zph s x y) r = zph (zbkT s r) x y := by
  have e : zbkT (zph s x y) r = zen (zgb (zlos (zph s x y) (s 31 r) (s 3 (s 31 r)) 3) r 3) r (s 31 r) 3 (zgb (zlos (zph s x y) (s 31 r) (s 3 (s 31 r)) 3) r 3 30 0).toNat := rfl
  rw [e, zph_los, zph_gb, zph_en, zph_j (by decide) (by decide)]
  rfl
theorem zph_its {P : Prop} {a b : zS} {x y : Int} : zits P (zph a x y) (zph b x y) = zph (zits P a b) x y := by
  by_cases c : P
  · rw [zits_t c, zits_t c]
  · rw [zits_f c, zits_f c]
theorem zph_tkT {s : zS} {r g v a sh x y : Int} : ztkT (zph s x y) r g v a sh = zph (ztkT s r g v a sh) x y := by
  have e : ztkT (zph s x y) r g v a sh = zits (s 13 (3 * v + g) = -1 ∨ s 13 (3 * v + g) = a ∨ zrlI s (s 13 (3 * v + g)) (-1)) (ztkS (zph s x y) r g (3 * v + g) a sh) (ztkS (zlos (zup (zph s x y) 33 (Classical.epsilon (zrlI s (s 13 (3 * v + g)))) 1) (s 13 (3 * v + g)) v 3) r g (3 * v + g) a sh) := rfl
  rw [e, ← zph_u (by decide) (by decide), zph_los, zph_tkS, zph_tkS, zph_its]
  rfl
theorem zph_doT {s : zS} {r x y : Int} : zdoT (zph s x y) r = zph (zdoT s r) x y := by
  have ev : ∀ k, zvd (zph s x y) k = zvd s k := fun k => zvd_q (s := s) (s' := zph s x y) ⟨zph_j (by decide) (by decide), zph_j (by decide) (by decide), zph_j (by decide) (by decide)⟩ k
  have e : zdoT (zph s x y) r = if s 27 (zit s r) = 0 ∨ s 27 (zit s r) = 4 then (if s 31 r < s 12 (3 * s 3 (s 31 r) + s 28 (zit s r)) then zlsT (zph s x y) r else if s 12 (3 * s 3 (s 31 r) + s 28 (zit s r)) = s 31 r then zph s x y else ztkT (zph s x y) r (s 28 (zit s r)) (s 3 (s 31 r)) (s 31 r) (zsh s r)) else if s 27 (zit s r) = 2 then (if zvd (zph s x y) (3 * s 3 (s 31 r) + s 28 (zit s r)) = 2 then zbkT (zph s x y) r else zph s x y) else zph s x y := rfl
  rw [e, ev, zph_lsT, zph_bkT, zph_tkT]
  unfold zdoT
  by_cases c1 : s 27 (zit s r) = 0 ∨ s 27 (zit s r) = 4
  · rw [if_pos c1, if_pos c1]
    by_cases c2 : s 31 r < s 12 (3 * s 3 (s 31 r) + s 28 (zit s r))
    · rw [if_pos c2, if_pos c2]
    · rw [if_neg c2, if_neg c2]
      by_cases c3 : s 12 (3 * s 3 (s 31 r) + s 28 (zit s r)) = s 31 r
      · rw [if_pos c3, if_pos c3]
      · rw [if_neg c3, if_neg c3]
  · rw [if_neg c1, if_neg c1]
    by_cases c2 : s 27 (zit s r) = 2
    · rw [if_pos c2, if_pos c2]
      by_cases c3 : zvd s (3 * s 3 (s 31 r) + s 28 (zit s r)) = 2
      · rw [if_pos c3, if_pos c3]
      · rw [if_neg c3, if_neg c3]
    · rw [if_neg c2, if_neg c2]
theorem zph_re {s : zS} {x y : Int} : ∀ n : Nat, zre (zph s x y) n = zph (zre s n) x y
  | 0 => by
    show zup (zph s x y) 0 0 0 = zph (zup s 0 0 0) x y
    rw [zph_u (by decide) (by decide)]
  | n + 1 => by
    have e : zre (zph s x y) (n + 1) = zup (zup (zup (zre (zph s x y) n) 15 n (s 12 n)) 16 n (s 13 n)) 17 n (s 14 n) := rfl
    have f : zre s (n + 1) = zup (zup (zup (zre s n) 15 n (s 12 n)) 16 n (s 13 n)) 17 n (s 14 n) := rfl
    rw [e, f, zph_re n, zph_u (by decide) (by decide), zph_u (by decide) (by decide), zph_u (by decide) (by decide)]
theorem zph_cp {s t : zS} {x y : Int} {n : Nat} : zco (zph s x y) (zph t x y) n = zph (zco s t n) x y := by
  induction n with
  | zero => rfl
  | succ n ih =>
    have e : ∀ u : zS, zcoS (zph s x y) (zph u x y) n = zup (zup (zup (zph u x y) 45 0 (u 45 0 + zcn1 (zoth3 s u n))) 47 (2 * n) (zitp (zoth2 s u n) 0 (u 47 (2 * n)))) 47 (2 * n + 1) (zitp (zoth2 s u n) 0 (u 47 (2 * n + 1))) := fun u => rfl
    show zcoS (zph s x y) (zco (zph s x y) (zph t x y) n) n = zph (zcoS s (zco s t n) n) x y
    rw [ih, e]
    unfold zcoS
    rw [zph_u (by decide) (by decide), zph_u (by decide) (by decide), zph_u (by decide) (by decide)]

