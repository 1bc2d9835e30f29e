set_option maxRecDepth 16384
/-! artefact: both sides (printed by a program out of the fields' numbers). -/
def zatB (h : zH) : zH := zsr (znw (znw h 0 0 12) 21 3 3) 0 (zct h 0) 11 (some (21, zct h 21))
def zatH (h : zH) (n a b c d e f g p q : Int) : zH := zsi (zsi (zsi (zsi (zsi (zsi (zsi (zsi (zsi (zsi (zatB h) 0 (zct h 0) 0 (zE n)) 0 (zct h 0) 1 (zE a)) 0 (zct h 0) 2 (zE b)) 0 (zct h 0) 3 (zE c)) 0 (zct h 0) 4 (zE d)) 0 (zct h 0) 5 (zE e)) 0 (zct h 0) 6 (zE f)) 0 (zct h 0) 7 (zE g)) 0 (zct h 0) 8 (zE p)) 0 (zct h 0) 9 (zE q)
def zatS (s : zS) (a b c d e f g p q : Int) : zS := zup (zup (zup (zup (zup (zup (zup (zup (zup (zup s 3 (s 2 0) a) 4 (s 2 0) b) 5 (s 2 0) c) 6 (s 2 0) d) 7 (s 2 0) e) 8 (s 2 0) f) 9 (s 2 0) g) 10 (s 2 0) p) 11 (s 2 0) q) 2 0 (s 2 0 + 1)
section ZAT
variable {s : zS} {a b c d e f g p q u : Int}
theorem zatS_2 : zatS s a b c d e f g p q 2 0 = s 2 0 + 1 := zup_s
theorem zatS_3 : zatS s a b c d e f g p q 3 u = if u = s 2 0 then a else s 3 u := by
  show zup s 3 (s 2 0) a 3 u = _
  exact zif_u
theorem zatS_4 : zatS s a b c d e f g p q 4 u = if u = s 2 0 then b else s 4 u := by
  show zup s 4 (s 2 0) b 4 u = _
  exact zif_u
theorem zatS_5 : zatS s a b c d e f g p q 5 u = if u = s 2 0 then c else s 5 u := by
  show zup s 5 (s 2 0) c 5 u = _
  exact zif_u
theorem zatS_6 : zatS s a b c d e f g p q 6 u = if u = s 2 0 then d else s 6 u := by
  show zup s 6 (s 2 0) d 6 u = _
  exact zif_u
theorem zatS_7 : zatS s a b c d e f g p q 7 u = if u = s 2 0 then e else s 7 u := by
  show zup s 7 (s 2 0) e 7 u = _
  exact zif_u
theorem zatS_8 : zatS s a b c d e f g p q 8 u = if u = s 2 0 then f else s 8 u := by
  show zup s 8 (s 2 0) f 8 u = _
  exact zif_u
theorem zatS_9 : zatS s a b c d e f g p q 9 u = if u = s 2 0 then g else s 9 u := by
  show zup s 9 (s 2 0) g 9 u = _
  exact zif_u
theorem zatS_10 : zatS s a b c d e f g p q 10 u = if u = s 2 0 then p else s 10 u := by
  show zup s 10 (s 2 0) p 10 u = _
  exact zif_u
theorem zatS_11 : zatS s a b c d e f g p q 11 u = if u = s 2 0 then q else s 11 u := by
  show zup s 11 (s 2 0) q 11 u = _
  exact zif_u
end ZAT
theorem zat_k {h : zH} {n a b c d e f g p q : Int} (P : Nat → Prop) (p1 : ¬ P 0) (p2 : ¬ P 21) (p3 : ¬ P 14) : zKp P h (zadx (zatH h n a b c d e f g p q) 14 0 (zct h 0)) :=
  ((((((((((((((zKp_w p1).tr (zKp_w p2)).tr (zKp_r p1)).tr (zKp_i p1)).tr (zKp_i p1)).tr (zKp_i p1)).tr (zKp_i p1)).tr (zKp_i p1)).tr (zKp_i p1)).tr (zKp_i p1)).tr (zKp_i p1)).tr (zKp_i p1)).tr (zKp_i p1)).tr (zKp_r p3)).tr (zKp_n p3)
theorem zatH_C {h : zH} {s : zS} {a b c d e f g p q : Int} (hC : zCl h s) (hW : zWf s) : zCl (zadx (zatH h (s 2 0) a b c d e f g p q) 14 0 (zct h 0)) (zatS s a b c d e f g p q) := by
  obtain ⟨wA, wK, wC, wD, wP, wR, wZ, wT, wG, wE, wM, wX⟩ := hW
  have hn := wA.1
  have u0 : zus s (s 2 0) = 0 := by
    have z1 : zcnt (fun k => s 12 k = s 2 0) 12 = 0 := (zcnt_0 12).mpr fun ⟨r, r0, r1, r2⟩ => by have := (wK r r0 r1).1; omega
    have z2 : zcnt (fun k => s 13 k = s 2 0) 12 = 0 := (zcnt_0 12).mpr fun ⟨r, r0, r1, r2⟩ => by have := (wK r r0 r1).2.1; omega
    have z3 : zcnt (fun k => s 18 k = s 2 0) 800 = 0 := (zcnt_0 800).mpr fun ⟨r, r0, r1, r2⟩ => by have := (wC.2 r r0 r1).2.1; omega
    unfold zus
    rw [z1, z2, z3]
    rfl
  have v0 : ∀ r, zss s (s 2 0) r = 0 := fun r => (zcnt_0 800).mpr fun ⟨k, k0, k1, k2⟩ => by
    have h1 := (wC.2 k k0 k1).2.1
    have h2 := k2.1
    omega
  obtain ⟨c1, c2, c3, c4, c5, c6, c7, c8, c9, c10, c11, c12, c13, c14⟩ := hC
  obtain ⟨n1, n2, n3, n4, n5, n6, n7, n8, n9, n10, n11, n12, n13⟩ := c14
  obtain ⟨⟨t0, t1⟩, t2⟩ := c3
  refine ⟨c1, c2, ⟨⟨t0, ?_⟩, fun u u0' u1 => ?_⟩, c4, c5, c6, c7, c8, c9, c10, c11, c12, zCM_w c13 (zat_k _ (by decide) (by decide) (by decide)) rfl rfl rfl rfl, ?_, ?_, n3, n4, n5, n6, n7, n8, n9, n10, n11, n12, n13⟩
  · rw [zatS_2]
    have : zln (zadx (zatH h (s 2 0) a b c d e f g p q) 14 0 (zct h 0)) 14 0 = zln h 14 0 + 1 := zln_s (h := zsr (zatH h (s 2 0) a b c d e f g p q) 14 0 (zln h 14 0) (some (0, zct h 0)))
    omega
  · rw [zatS_2] at u1
    have hu : zus (zatS s a b c d e f g p q) u = zus s u := rfl
    have hv : ∀ r, zss (zatS s a b c d e f g p q) u r = zss s u r := fun r => rfl
    simp only [zatS_3, zatS_4, zatS_5, zatS_6, zatS_7, zatS_8, zatS_9, zatS_10, zatS_11, hu, hv]
    have hz : ∀ i j, zi (zadx (zatH h (s 2 0) a b c d e f g p q) 14 0 (zct h 0)) 0 i j = zi (zatH h (s 2 0) a b c d e f g p q) 0 i j := fun i j => rfl
    by_cases eu : u = s 2 0
    · have e0 : u.toNat = zct h 0 := by omega
      have el : u.toNat = zln h 14 0 := by omega
      have e21 : u.toNat = zct h 21 := by omega
      simp only [if_pos eu]
      rw [eu] at e0 el e21
      rw [eu]
      simp only [u0, v0]
      refine ⟨?_, ?_, ?_, ?_, ?_, ?_, ?_, ?_, ?_, ?_, ?_, ?_, ?_, ?_, fun r r0 r1 => ?_⟩
      · show zr (zsr (zatH h (s 2 0) a b c d e f g p q) 14 0 (zln h 14 0) (some (0, zct h 0))) 14 0 (s 2 0).toNat = _
        rw [el, zr_s, ← el, e0]
      · rw [hz, e0]
        exact (zi_j (by decide)).trans ((zi_j (by decide)).trans ((zi_j (by decide)).trans ((zi_j (by decide)).trans ((zi_j (by decide)).trans ((zi_j (by decide)).trans ((zi_j (by decide)).trans ((zi_j (by decide)).trans ((zi_j (by decide)).trans (zi_s)))))))))
      · rw [hz, e0]
        exact (zi_j (by decide)).trans ((zi_j (by decide)).trans ((zi_j (by decide)).trans ((zi_j (by decide)).trans ((zi_j (by decide)).trans ((zi_j (by decide)).trans ((zi_j (by decide)).trans ((zi_j (by decide)).trans (zi_s))))))))
      · rw [hz, e0]
        exact (zi_j (by decide)).trans ((zi_j (by decide)).trans ((zi_j (by decide)).trans ((zi_j (by decide)).trans ((zi_j (by decide)).trans ((zi_j (by decide)).trans ((zi_j (by decide)).trans (zi_s)))))))
      · rw [hz, e0]
        exact (zi_j (by decide)).trans ((zi_j (by decide)).trans ((zi_j (by decide)).trans ((zi_j (by decide)).trans ((zi_j (by decide)).trans ((zi_j (by decide)).trans (zi_s))))))
      · rw [hz, e0]
        exact (zi_j (by decide)).trans ((zi_j (by decide)).trans ((zi_j (by decide)).trans ((zi_j (by decide)).trans ((zi_j (by decide)).trans (zi_s)))))
      · rw [hz, e0]
        exact (zi_j (by decide)).trans ((zi_j (by decide)).trans ((zi_j (by decide)).trans ((zi_j (by decide)).trans (zi_s))))
      · rw [hz, e0]
        exact (zi_j (by decide)).trans ((zi_j (by decide)).trans ((zi_j (by decide)).trans (zi_s)))
      · rw [hz, e0]
        exact (zi_j (by decide)).trans ((zi_j (by decide)).trans (zi_s))
      · rw [hz, e0]
        exact (zi_j (by decide)).trans (zi_s)
      · rw [hz, e0]
        exact zi_s
      · rw [hz, e0]
        refine (zi_j (by decide)).trans ((zi_j (by decide)).trans ((zi_j (by decide)).trans ((zi_j (by decide)).trans ((zi_j (by decide)).trans ((zi_j (by decide)).trans ((zi_j (by decide)).trans ((zi_j (by decide)).trans ((zi_j (by decide)).trans ((zi_j (by decide)).trans (?_))))))))))
        show zi (znw h 0 0 12) 0 (zct h 0) 10 = zE 0
        exact (znw_0 (h := h) (k := 0) (n := 0) (sl := 12)).trans zE_0
      · rw [e0]
        show zr (zatB h) 0 (zct h 0) 11 = _
        exact zr_s.trans (by rw [← e21, e0])
      · rw [e21]
        exact zln_n (h := znw h 0 0 12) (k := 21) (n := 3) (sl := 3)
      · rw [e21]
        exact (znw_0 (h := znw h 0 0 12) (k := 21) (n := 3) (sl := 3)).trans zE_0
    · obtain ⟨p0, p1, p2, p3, p4, p5, p6, p7, p8, p9, p10, p11, p12, p13, p14⟩ := t2 u u0' (by omega)
      have e0 : u.toNat ≠ zct h 0 := by omega
      have el : u.toNat ≠ zln h 14 0 := by omega
      have e21 : u.toNat ≠ zct h 21 := by omega
      simp only [if_neg eu]
      have hy : ∀ j, zi (zadx (zatH h (s 2 0) a b c d e f g p q) 14 0 (zct h 0)) 0 u.toNat j = zi h 0 u.toNat j := fun j => by
        rw [hz]
        refine (zi_i e0).trans ((zi_i e0).trans ((zi_i e0).trans ((zi_i e0).trans ((zi_i e0).trans ((zi_i e0).trans ((zi_i e0).trans ((zi_i e0).trans ((zi_i e0).trans ((zi_i e0).trans (?_))))))))))
        show zi (znw h 0 0 12) 0 u.toNat j = _
        exact znw_i e0
      refine ⟨?_, (hy 0).trans p1, (hy 1).trans p2, (hy 2).trans p3, (hy 3).trans p4, (hy 4).trans p5, (hy 5).trans p6, (hy 6).trans p7, (hy 7).trans p8, (hy 8).trans p9, (hy 9).trans p10, (hy 10).trans p11, ?_, ?_, fun r r0 r1 => ?_⟩
      · show zr (zsr (zatH h (s 2 0) a b c d e f g p q) 14 0 (zln h 14 0) (some (0, zct h 0))) 14 0 u.toNat = _
        rw [zr_j el]
        exact p0
      · show zr (zatB h) 0 u.toNat 11 = _
        refine (zr_i e0).trans ?_
        show zr (znw h 0 0 12) 0 u.toNat 11 = _
        exact (znw_r (h := h) (n := 0) (sl := 12) e0).trans p12
      · exact (zln_o (h := znw h 0 0 12) (n := 3) (sl := 3) e21).trans p13
      · exact (znw_i (h := znw h 0 0 12) (n := 3) (sl := 3) e21).trans (p14 r r0 r1)
  · rw [zatS_2]
    have : zct (zadx (zatH h (s 2 0) a b c d e f g p q) 14 0 (zct h 0)) 0 = zct h 0 + 1 := zct_n (h := h) (k := 0) (n := 0) (sl := 12)
    omega
  · rw [zatS_2]
    have : zct (zadx (zatH h (s 2 0) a b c d e f g p q) 14 0 (zct h 0)) 21 = zct h 21 + 1 := zct_n (h := znw h 0 0 12) (k := 21) (n := 3) (sl := 3)
    omega
def zatO (a b c d e f g : Int) : Prop := (0 ≤ a ∧ a ≤ 3) ∧ (0 ≤ b ∧ b ≤ 5) ∧ (0 ≤ c ∧ c ≤ 255) ∧ (0 ≤ d ∧ d ≤ 255) ∧ (1 ≤ f ∧ f ≤ 255) ∧ (0 ≤ g ∧ g ≤ 7)
def zatN (a d e : Int) : Prop := (d = 0 → e = -1) ∧ (d ≠ 0 → (0 ≤ e ∧ e ≤ 3) ∧ e ≠ a)
theorem zatS_W {s : zS} {a b c d e f g p q : Int} (hW : zWf s) (h30 : s 2 0 < 30) (ho : zatO a b c d e f g) (hn : zatN a d e) (hp : 0 ≤ p ∧ p ≤ 1) (hq : 0 ≤ q ∧ q ≤ 1) : zWf (zatS s a b c d e f g p q) := by
  obtain ⟨wA, wK, wC, wD, wP, wR, wZ, wT, wG, wE, wM, wX⟩ := hW
  have hn0 := wA.1
  obtain ⟨o1, o2, o3, o4, o5, o6⟩ := ho
  have k3 : ∀ u, u < s 2 0 → zatS s a b c d e f g p q 3 u = s 3 u := fun u hu => by rw [zatS_3, if_neg (by omega)]
  refine ⟨⟨?_, fun u u0 u1 => ?_⟩, fun k k0 k1 => ?_, ⟨wC.1, fun k k0 k1 => ?_⟩, wD, wP, ⟨wR.1, wR.2.1, fun r r0 r1 => ?_⟩, wZ, wT, wG, wE, wM, wX⟩
  · rw [zatS_2]; omega
  · rw [zatS_2] at u1
    simp only [zatS_3, zatS_4, zatS_5, zatS_6, zatS_7, zatS_8, zatS_9, zatS_10, zatS_11]
    by_cases eu : u = s 2 0
    · simp only [if_pos eu]
      have h1 : d = 0 ↔ e = -1 := ⟨hn.1, fun z => Classical.not_not.mp fun y => by have := (hn.2 y).1; omega⟩
      have h2 : -1 ≤ e ∧ e < 4 ∧ e ≠ a := by
        by_cases y : d = 0
        · have := hn.1 y; omega
        · have := hn.2 y; omega
      exact ⟨by omega, by omega, by omega, by omega, h2, by omega, by omega, hp, hq, h1⟩
    · simp only [if_neg eu]
      exact wA.2 u u0 (by omega)
  · obtain ⟨k1', k2', k3', k4', k5', k6'⟩ := wK k k0 k1
    show (-1 ≤ s 12 k ∧ s 12 k < zatS s a b c d e f g p q 2 0) ∧ (-1 ≤ s 13 k ∧ s 13 k < zatS s a b c d e f g p q 2 0) ∧ (0 ≤ s 14 k ∧ s 14 k ≤ 100) ∧ (s 13 k = -1 ↔ s 14 k = 0) ∧ (s 12 k ≠ -1 → zatS s a b c d e f g p q 3 (s 12 k) = k / 3) ∧ (s 13 k ≠ -1 → zatS s a b c d e f g p q 3 (s 13 k) = k / 3)
    rw [zatS_2, k3 _ k1'.2, k3 _ k2'.2]
    exact ⟨by omega, by omega, k3', k4', k5', k6'⟩
  · obtain ⟨k1', k2', k3'⟩ := wC.2 k k0 k1
    show -1 ≤ s 18 k ∧ s 18 k < zatS s a b c d e f g p q 2 0 ∧ (s 18 k ≠ -1 → zatS s a b c d e f g p q 3 (s 18 k) = k / 200)
    rw [zatS_2, k3 _ k2']
    exact ⟨k1', by omega, k3'⟩
  · obtain ⟨q1, q2, q3, q4, q5, q6, q7, q8, q9, q10, q11⟩ := wR.2.2 r r0 r1
    refine ⟨⟨q1.1, ?_⟩, q2, q3, q4, q5, q6, q7, q8, q9, q10, fun v v0 v1 => ?_⟩
    · rw [zatS_2]
      show s 31 r < _
      omega
    · obtain ⟨y1, y2⟩ := q11 v v0 v1
      refine ⟨y1, fun z => ?_⟩
      obtain ⟨y3, y4, y5, y6⟩ := y2 z
      show -1 ≤ s 42 (3 * r + v) ∧ s 42 (3 * r + v) < zatS s a b c d e f g p q 2 0 ∧ s 42 (3 * r + v) ≠ s 31 r ∧ (s 42 (3 * r + v) ≠ -1 → zatS s a b c d e f g p q 3 (s 42 (3 * r + v)) = zatS s a b c d e f g p q 3 (s 31 r))
      rw [zatS_2, k3 _ y4, k3 _ q1.2]
      exact ⟨y3, by omega, y5, y6⟩
theorem zc41 {h : zH} {a d e : Int} (a1 : -2147483648 ≤ a) (a2 : a < 2147483648) (d1 : -2147483648 ≤ d) (d2 : d < 2147483648) (e1 : -2147483648 ≤ e) (e2 : e < 2147483648) : (zatN a d e → zm41 (zE a) (zE d) (zE e) h = some (.inl (), h)) ∧ (¬ zatN a d e → zm41 (zE a) (zE d) (zE e) h = some (.inr 0, zro h 1 6)) := by
  by_cases y : d = 0
  · by_cases z : e = -1
    · have hz : -1 ≤ e ∧ e ≤ -1 := by omega
      refine ⟨fun _ => ?_, fun n => absurd ⟨fun _ => z, fun k => absurd y k⟩ n⟩
      simp (discharger := omega) only [zm41, zE_0, zE_1, zE_2, zE_3, zE_4, zE_5, zE_6, zE_7, zE_8, zE_9, zE_10, zE_11, zE_12, zE_13, zE_14, zE_neg, zE_m1, y, if_true, zc131, if_pos hz, ↓zb_s]
    · have hz : ¬ (-1 ≤ e ∧ e ≤ -1) := by omega
      refine ⟨fun n => absurd (n.1 y) z, fun _ => ?_⟩
      simp (discharger := omega) only [zm41, zE_0, zE_1, zE_2, zE_3, zE_4, zE_5, zE_6, zE_7, zE_8, zE_9, zE_10, zE_11, zE_12, zE_13, zE_14, zE_neg, zE_m1, y, if_true, zc131, if_neg hz, ↓zb_x]
  · by_cases z : 0 ≤ e ∧ e ≤ 3
    · by_cases k : e = a
      · refine ⟨fun n => absurd k (n.2 y).2, fun _ => ?_⟩
        subst k
        simp (discharger := omega) only [zm41, zE_0, zE_1, zE_2, zE_3, zE_4, zE_5, zE_6, zE_7, zE_8, zE_9, zE_10, zE_11, zE_12, zE_13, zE_14, zE_neg, zE_inj, y, if_false, zc131, if_pos z, ↓zb_s, if_true]
      · refine ⟨fun _ => ?_, fun n => absurd ⟨fun k => absurd k y, fun _ => ⟨z, k⟩⟩ n⟩
        simp (discharger := omega) only [zm41, zE_0, zE_1, zE_2, zE_3, zE_4, zE_5, zE_6, zE_7, zE_8, zE_9, zE_10, zE_11, zE_12, zE_13, zE_14, zE_neg, zE_inj, y, if_false, zc131, if_pos z, ↓zb_s, k]
    · refine ⟨fun n => absurd (n.2 y).1 z, fun _ => ?_⟩
      simp (discharger := omega) only [zm41, zE_0, zE_1, zE_2, zE_3, zE_4, zE_5, zE_6, zE_7, zE_8, zE_9, zE_10, zE_11, zE_12, zE_13, zE_14, zE_neg, zE_inj, y, if_false, zc131, if_neg z, ↓zb_x]
