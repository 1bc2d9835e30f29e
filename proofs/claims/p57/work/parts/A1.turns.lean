set_option maxRecDepth 16384
/-! Turns and days keep it; effects grow, and by how much. -/
theorem zitp_c {P : Prop} {a b lo hi : Int} (ha : lo ≤ a ∧ a ≤ hi) (hb : lo ≤ b ∧ b ≤ hi) : lo ≤ zitp P a b ∧ zitp P a b ≤ hi := by
  by_cases h : P
  · rw [zitp_t h]; exact ha
  · rw [zitp_f h]; exact hb
theorem zite_c {P : Prop} [Decidable P] {a b lo hi : Int} (ha : lo ≤ a ∧ a ≤ hi) (hb : lo ≤ b ∧ b ≤ hi) : lo ≤ (if P then a else b) ∧ (if P then a else b) ≤ hi := by
  split
  · exact ha
  · exact hb
theorem zmyV_x {s : zS} {a : Int} : ∃ v, zmyV s a v := by
  unfold zmyV
  by_cases c1 : zlv s a (-1)
  · exact ⟨0, Or.inl ⟨c1, rfl⟩⟩
  · by_cases c2 : zxs 0 (s 2 0) (zbad s a)
    · exact ⟨6, Or.inr (Or.inl ⟨c1, c2, rfl⟩)⟩
    · by_cases c3 : (s 6 a = 0 ∨ zxs 0 (s 2 0) (zoth s a)) ∧ zfd s a
      · exact ⟨0, Or.inr (Or.inr (Or.inl ⟨c1, c2, c3, rfl⟩))⟩
      · exact ⟨7, Or.inr (Or.inr (Or.inr ⟨c1, c2, c3, rfl⟩))⟩
theorem zbr_r {s : zS} {r g sh : Int} : 0 ≤ zbr s r g sh ∧ zbr s r g sh ≤ 12 := by
  unfold zbr
  have := zmyF_r (zmyV_x (s := s) (a := s 31 r))
  exact zitp_c (by omega) (zitp_c (by omega) (zitp_c (by omega) (zitp_c (by omega) (zitp_c (by omega) (by omega)))))
theorem zrsn_r {s : zS} {r : Int} : 0 ≤ zrsn s r ∧ zrsn s r ≤ 12 := by
  unfold zrsn
  exact zite_c zbr_r (zite_c (zite_c (by omega) (by omega)) (zite_c (zite_c (zite_c (by omega) (by omega)) (by omega)) (zite_c (zite_c (by omega) (by omega)) (zite_c zbr_r (zite_c (zite_c (by omega) (by omega)) (zitp_c (by omega) (by omega)))))))
theorem ztuS_J {s : zS} {p i : Int} (hW : zWf s) (hJ : zJv s) (i0 : 0 ≤ i) (i1 : i < s 30 0) : zJv (ztuS s p i) := by
  unfold ztuS
  by_cases c : ztuP s p i
  · rw [zits_t c]
    unfold ztuP at c
    obtain ⟨-, -, c33, c0⟩ := c
    have a0 := (hW.2.2.2.2.2.1.2.2 i i0 i1).1
    have z := zrsn_r (s := s) (r := i)
    rw [zE_inj (by omega) (by omega) (by omega) (by omega)] at c0
    exact zttT_J hW hJ i0 i1 c33 (zrsn_J hJ.1 a0.1 a0.2 c0)
  · rw [zits_f c]
    exact hJ
theorem ztuN_J {s : zS} {p : Int} (hW : zWf s) (hJ : zJv s) : ∀ n : Nat, n ≤ s 30 0 → zJv (ztuN s p n)
  | 0, _ => hJ
  | n + 1, hn => by
    obtain ⟨a1, a2, a3⟩ := ztuN_W (p := p) hW n (by omega)
    have e30 := a3 30 (by unfold zjn; decide) (by decide) (by decide)
    exact ztuS_J a1 (ztuN_J hW hJ n (by omega)) (by omega) (by rw [e30]; omega)
theorem zdy1_sj {s : zS} (hW : zWf s) : zSj s (zdy1 s) := zSj.of fun j _ h1 _ _ _ _ h20 h24 _ _ _ h37 h40 _ _ _ _ h60 => by
  unfold zdy1
  rw [zlg0_j h40 h37 h60, zdx_j hW j h20 h24]
  funext u
  exact zup_j h1
theorem zdy_J {s : zS} (hW : zWf s) (hd : s 1 0 < 20000) (hJ : zJv s) : zJv (zdy3 s) := by
  obtain ⟨W1, ⟨W2, k30, k0⟩, ⟨W3, a30, a0⟩, W4, -, -⟩ := zdy_W hW hd
  have h20 := hW.2.2.2.2.2.1.1
  have J2 := ztuN_J (p := 1) W2 ((zdy1_sj hW).J hJ) (s 30 0).toNat (by rw [k30]; omega)
  exact ztuN_J (p := 0) W3 J2 (s 30 0).toNat (by rw [a30]; omega)
theorem zdyN_J {s : zS} (hW : zWf s) (hJ : zJv s) : ∀ n : Nat, s 1 0 + n ≤ 20000 → zJv (zdyN s n)
  | 0, _ => hJ
  | n + 1, hn => by
    obtain ⟨a1, a2, -⟩ := zdyN_W hW n (by omega)
    exact zdy_J a1 (by omega) (zdyN_J hW hJ n (by omega))
-- effects
theorem ztn_45 {s : zS} {r : Int} (hW : zWf s) (r0 : 0 ≤ r) (r1 : r < s 30 0) (h33 : s 33 r = 0) : s 45 0 ≤ ztnT s r 45 0 ∧ ztnT s r 45 0 ≤ s 45 0 + 12 := by
  obtain ⟨f1, f2, f3⟩ := zre_j (s := s) 12
  have e30 := f1 30 (by decide) (by decide) (by decide) (by decide)
  have e33 := f1 33 (by decide) (by decide) (by decide) (by decide)
  have hWs : zWf (zre s 12) := hW.sc zre_sc
  obtain ⟨t, b, rfl, t1, -⟩ := zdo_p hWs r0 (by rw [e30]; exact r1) (by rw [e33]; exact h33)
  obtain ⟨-, t1b, -⟩ := t1
  have e45 : zdoT (zre s 12) r 45 = s 45 := (t1b 45 (by decide) (by decide) (by decide) (by decide) (by decide) (by decide) (by decide) (by decide) (by decide)).trans (f1 45 (by decide) (by decide) (by decide) (by decide))
  have h := (zco_j (s := zre s 12) (t := zdoT (zre s 12) r) 12).2.1.1
  have c := zcnt_r (zoth3 (zre s 12) (zdoT (zre s 12) r)) 12
  unfold ztnT
  rw [h, e45]
  omega
theorem ztt_45 {s : zS} {r : Int} (hW : zWf s) (r0 : 0 ≤ r) (r1 : r < s 30 0) (h33 : s 33 r = 0) : s 45 0 ≤ zttT s r 45 0 ∧ zttT s r 45 0 ≤ s 45 0 + 12 := by
  have h := ztn_45 hW r0 r1 h33
  unfold zttT
  by_cases c1 : s 44 0 = 1
  · rw [if_pos c1, zph_j (by decide) (by decide)]
    omega
  · rw [if_neg c1]
    by_cases c2 : s 44 0 = 2
    · rw [if_pos c2, zph_j (by decide) (by decide)]
      exact h
    · rw [if_neg c2]
      by_cases c3 : 1 < ztnT s r 33 r
      · rw [if_pos c3]
        exact h
      · rw [if_neg c3, zmvT_j (by decide) (by decide) (by decide) (by decide)]
        exact h
theorem ztuS_45 {s : zS} {p i : Int} (hW : zWf s) (i0 : 0 ≤ i) (i1 : i < s 30 0) : s 45 0 ≤ ztuS s p i 45 0 ∧ ztuS s p i 45 0 ≤ s 45 0 + 12 := by
  unfold ztuS
  by_cases c : ztuP s p i
  · rw [zits_t c]
    unfold ztuP at c
    exact ztt_45 hW i0 i1 c.2.2.1
  · rw [zits_f c]
    omega
theorem ztuN_45 {s : zS} {p : Int} (hW : zWf s) : ∀ n : Nat, n ≤ s 30 0 → s 45 0 ≤ ztuN s p n 45 0 ∧ ztuN s p n 45 0 ≤ s 45 0 + 12 * n
  | 0, _ => by
    show s 45 0 ≤ s 45 0 ∧ s 45 0 ≤ s 45 0 + 12 * ((0 : Nat) : Int)
    omega
  | n + 1, hn => by
    obtain ⟨a1, a2, a3⟩ := ztuN_W (p := p) hW n (by omega)
    have e30 := a3 30 (by unfold zjn; decide) (by decide) (by decide)
    have h1 := ztuN_45 (p := p) hW n (by omega)
    have h2 := ztuS_45 (p := p) (i := (n : Int)) a1 (by omega) (by rw [e30]; omega)
    show s 45 0 ≤ ztuS (ztuN s p n) p n 45 0 ∧ ztuS (ztuN s p n) p n 45 0 ≤ s 45 0 + 12 * ((n + 1 : Nat) : Int)
    omega
theorem zdy_45 {s : zS} (hW : zWf s) (hd : s 1 0 < 20000) : s 45 0 ≤ zdy3 s 45 0 ∧ zdy3 s 45 0 ≤ s 45 0 + 480 := by
  obtain ⟨W1, ⟨W2, k30, k0⟩, ⟨W3, a30, a0⟩, W4, -, -⟩ := zdy_W hW hd
  have h20 := hW.2.2.2.2.2.1.1
  have e : zdy1 s 45 0 = s 45 0 := by
    unfold zdy1
    rw [zlg0_j (by decide) (by decide) (by decide), zdx_j hW 45 (by decide) (by decide)]
    exact zup_j (by decide)
  have h1 := ztuN_45 (p := 1) W2 (s 30 0).toNat (by rw [k30]; omega)
  have h2 := ztuN_45 (p := 0) W3 (s 30 0).toNat (by rw [a30]; omega)
  have h1 : zdy1 s 45 0 ≤ zdy2 s 45 0 ∧ zdy2 s 45 0 ≤ zdy1 s 45 0 + 12 * ((s 30 0).toNat : Int) := h1
  have h2 : zdy2 s 45 0 ≤ zdy3 s 45 0 ∧ zdy3 s 45 0 ≤ zdy2 s 45 0 + 12 * ((s 30 0).toNat : Int) := h2
  omega
theorem zdyN_45 {s : zS} (hW : zWf s) : ∀ n : Nat, s 1 0 + n ≤ 20000 → s 45 0 ≤ zdyN s n 45 0 ∧ zdyN s n 45 0 ≤ s 45 0 + 480 * n
  | 0, _ => by
    show s 45 0 ≤ s 45 0 ∧ s 45 0 ≤ s 45 0 + 480 * ((0 : Nat) : Int)
    omega
  | n + 1, hn => by
    obtain ⟨a1, a2, -⟩ := zdyN_W hW n (by omega)
    have h1 := zdyN_45 hW n (by omega)
    have h2 := zdy_45 a1 (by omega)
    show s 45 0 ≤ zdy3 (zdyN s n) 45 0 ∧ zdy3 (zdyN s n) 45 0 ≤ s 45 0 + 480 * ((n + 1 : Nat) : Int)
    omega
/-- what a day leaves as it is -/
def zjd (j : Nat) : Prop := zjn j ∧ j ≠ 43 ∧ j ≠ 44 ∧ j ≠ 1 ∧ j ≠ 20 ∧ j ≠ 24 ∧ j ≠ 40 ∧ j ≠ 60
theorem zdy_j {s : zS} {j : Nat} (hW : zWf s) (hd : s 1 0 < 20000) (h : zjd j) : zdy3 s j = s j := by
  obtain ⟨W1, ⟨W2, k30, k0⟩, ⟨W3, a30, a0⟩, W4, -, -⟩ := zdy_W hW hd
  have h20 := hW.2.2.2.2.2.1.1
  obtain ⟨hn, h43, h44, h1, h20, h24, h40, h60⟩ := h
  have e1 : zdy1 s j = s j := by
    unfold zdy1
    unfold zjn at hn
    rw [zlg0_j h40 hn.2.2.2.2.2.2.2.2.2.2.1 h60, zdx_j hW j h20 h24]
    funext u
    exact zup_j h1
  have e2 : zdy2 s j = zdy1 s j := (ztuN_W (p := 1) W2 (s 30 0).toNat (by rw [k30]; omega)).2.2 j hn h43 h44
  have e3 : zdy3 s j = zdy2 s j := (ztuN_W (p := 0) W3 (s 30 0).toNat (by rw [a30]; omega)).2.2 j hn h43 h44
  rw [e3, e2, e1]
theorem zdyN_j {s : zS} {j : Nat} (hW : zWf s) (h : zjd j) : ∀ n : Nat, s 1 0 + n ≤ 20000 → zdyN s n j = s j
  | 0, _ => rfl
  | n + 1, hn => by
    obtain ⟨a1, a2, -⟩ := zdyN_W hW n (by omega)
    exact (zdy_j a1 (by omega) h).trans (zdyN_j hW h n (by omega))
