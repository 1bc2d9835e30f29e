set_option maxRecDepth 16384
/-! artefact: both sides (printed by a program out of the fields' numbers). -/
def zatB (h : zH) : zH := zsr (znw (znw h 0 0 12) 21 3 3) 0 (zct h 0) 11 (some (21, zct h 21))
def zatH (h : zH) (n a b c d e f g p q : Int) : zH := zsi (zsi (zsi (zsi (zsi (zsi (zsi (zsi (zsi (zsi (zatB h) 0 (zct h 0) 0 (zE n)) 0 (zct h 0) 1 (zE a)) 0 (zct h 0) 2 (zE b)) 0 (zct h 0) 3 (zE c)) 0 (zct h 0) 4 (zE d)) 0 (zct h 0) 5 (zE e)) 0 (zct h 0) 6 (zE f)) 0 (zct h 0) 7 (zE g)) 0 (zct h 0) 8 (zE p)) 0 (zct h 0) 9 (zE q)
def zatS (s : zS) (a b c d e f g p q : Int) : zS := zup (zup (zup (zup (zup (zup (zup (zup (zup (zup s 3 (s 2 0) a) 4 (s 2 0) b) 5 (s 2 0) c) 6 (s 2 0) d) 7 (s 2 0) e) 8 (s 2 0) f) 9 (s 2 0) g) 10 (s 2 0) p) 11 (s 2 0) q) 2 0 (s 2 0 + 1)
section ZAT
variable {s : zS} {a b c d e f g p q u : Int}
theorem zatS_2 : zatS s a b c d e f g p q 2 0 = s 2 0 + 1 := zup_s
theorem zatS_3 : zatS s a b c d e f g p q 3 u = if u = s 2 0 then a else s 3 u := by
  show zup s 3 (s 2 0) a 3 u = _
  exact zif_u
theorem zatS_4 : zatS s a b c d e f g p q 4 u = if u = s 2 0 then b else s 4 u := by
  show zup s 4 (s 2 0) b 4 u = _
  exact zif_u
theorem zatS_5 : zatS s a b c d e f g p q 5 u = if u = s 2 0 then c else s 5 u := by
  show zup s 5 (s 2 0) c 5 u = _
  exact zif_u
theorem zatS_6 : zatS s a b c d e f g p q 6 u = if u = s 2 0 then d else s 6 u := by
  show zup s 6 (s 2 0) d 6 u = _
  exact zif_u
theorem zatS_7 : zatS s a b c d e f g p q 7 u = if u = s 2 0 then e else s 7 u := by
  show zup s 7 (s 2 0) e 7 u = _
  exact zif_u
theorem zatS_8 : zatS s a b c d e f g p q 8 u = if u = s 2 0 then f else s 8 u := by
  show zup s 8 (s 2 0) f 8 u = _
  exact zif_u
theorem zatS_9 : zatS s a b c d e f g p q 9 u = if u = s 2 0 then g else s 9 u := by
  show zup s 9 (s 2 0) g 9 u = _
  exact zif_u
theorem zatS_10 : zatS s a b c d e f g p q 10 u = if u = s 2 0 then p else s 10 u := by
  show zup s 10 (s 2 0) p 10 u = _
  exact zif_u
theorem zatS_11 : zatS s a b c d e f g p q 11 u = if u = s 2 0 then q else s 11 u := by
  show zup s 11 (s 2 0) q 11 u = _
  exact zif_u
end ZAT
theorem zat_k {h : zH} {n a b c d e f g p q : Int} (P : Nat → Prop) (p1 : ¬ P 0) (p2 : ¬ P 21) (p3 : ¬ P 14) : zKp P h (zadx (zatH h n a b c d e f g p q) 14 0 (zct h 0)) :=
  ((((((((((((((zKp_w p1).tr (zKp_w p2)).tr (zKp_r p1)).tr (zKp_i p1)).tr (zKp_i p1)).tr (zKp_i p1)).tr (zKp_i p1)).tr (zKp_i p1)).tr (zKp_i p1)).tr (zKp_i p1)).tr (zKp_i p1)).tr (zKp_i p1)).tr (zKp_i p1)).tr (zKp_r p3)).tr (zKp_n p3)
theorem zatH_C {h : zH} {s : zS} {a b c d e f g p q : Int} (hC : zCl h s) (hW : zWf s) : zCl (zadx (zatH h (s 2 0) a b c d e f g p q) 14 0 (zct h 0)) (zatS s a b c d e f g p q) := by
  obtain ⟨wA, wK, wC, wD, wP, wR, wZ, wT, wG, wE, wM, wX⟩ := hW
  have hn := wA.1
  have u0 : zus s (s 2 0) = 0 := by
    have z1 : zcnt (fun k => s 12 k = s 2 0) 12 = 0 := (zcnt_0 12).mpr fun ⟨r, r0, r1, r2⟩ => by have := (wK r r0 r1).1; omega
    have z2 : zcnt (fun k => s 13 k = s 2 0) 12 = 0 := (zcnt_0 12).mpr fun ⟨r, r0, r1, r2⟩ => by have := (wK r r0 r1).2.1; omega
    have z3 : zcnt (fun k => s 18 k = s 2 0) 800 = 0 := (zcnt_0 800).mpr fun ⟨r, r0, r1, r2⟩ => by have := (wC.2 r r0 r1).2.1; omega
    unfold zus
    rw [z1, z2, z3]
    rfl
  have v0 : ∀ r, zss s (s 2 0) r = 0 := fun r => (zcnt_0 800).mpr fun ⟨k, k0, k1, k2⟩ => by
    have h1 := (wC.2 k k0 k1).2.1
    have h2 := k2.1
    omega
  obtain ⟨c1, c2, c3, c4, c5, c6, c7, c8, c9, c10, c11, c12, c13, c14⟩ := hC
  obtain ⟨n1, n2, n3, n4, n5, n6, n7, n8, n9, n10, n11, n12, n13⟩ := c14
  obtain ⟨⟨t0, t1⟩, t2⟩ := c3
  refine ⟨c1, c2, ⟨⟨t0, ?_⟩, fun u u0' u1 => ?_⟩, c4, c5, c6, c7, c8, c9, c10, c11, c12, zCM_w c13 (zat_k _ (by decide) (by decide) (by decide)) rfl rfl rfl rfl, ?_, ?_, n3, n4, n5, n6, n7, n8, n9, n10, n11, n12, n13⟩
  · rw [zatS_2]
    have : zln (zadx (zatH h (s 2 0) a b c d e f g p q) 14 0 (zct h 0)) 14 0 = zln h 14 0 + 1 := zln_s (h := zsr (zatH h (s 2 0) a b c d e f g p q) 14 0 (zln h 14 0) (some (0, zct h 0)))
    omega
  · rw [zatS_2] at u1
    have hu : zus (zatS s a b c d e f g p q) u = zus s u := rfl
    have hv : ∀ r, zss (zatS s a b c d e f g p q) u r = zss s u r := fun r => rfl
    simp only [zatS_3, zatS_4, zatS_5, zatS_6, zatS_7, zatS_8, zatS_9, zatS_10, zatS_11, hu, hv]
    have hz : ∀ i j, zi (zadx (zatH h (s 2 0) a b c d e f g p q) 14 0 (zct h 0)) 0 i j = zi (zatH h (s 2 0) a b c d e f g p q) 0 i j := fun i j => rfl
    by_cases eu : u = s 2 0
    · have e0 : u.toNat = zct h 0 := by omega
      have el : u.toNat = zln h 14 0 := by omega
      have e21 : u.toNat = zct h 21 := by omega
      simp only [if_pos eu]
      rw [eu] at e0 el e21
      rw [eu]
      simp only [u0, v0]
      refine ⟨?_, ?_, ?_, ?_, ?_, ?_, ?_, ?_, ?_, ?_, ?_, ?_, ?_, ?_, fun r r0 r1 => ?_⟩
      · show zr (zsr (zatH h (s 2 0) a b c d e f g p q) 14 0 (zln h 14 0) (some (0, zct h 0))) 14 0 (s 2 0).toNat = _
        rw [el, zr_s, ← el, e0]
      · rw [hz, e0]
        exact (zi_j (by decide)).trans ((zi_j (by decide)).trans ((zi_j (by decide)).trans ((zi_j (by decide)).trans ((zi_j (by decide)).trans ((zi_j (by decide)).trans ((zi_j (by decide)).trans ((zi_j (by decide)).trans ((zi_j (by decide)).trans (zi_s)))))))))
      · rw [hz, e0]
        exact (zi_j (by decide)).trans ((zi_j (by decide)).trans ((zi_j (by decide)).trans ((zi_j (by decide)).trans ((zi_j (by decide)).trans ((zi_j (by decide)).trans ((zi_j (by decide)).trans ((zi_j (by decide)).trans (zi_s))))))))
      · rw [hz, e0]
        exact (zi_j (by decide)).trans ((zi_j (by decide)).trans ((zi_j (by decide)).trans ((zi_j (by decide)).trans ((zi_j (by decide)).trans ((zi_j (by decide)).trans ((zi_j (by decide)).trans (zi_s)))))))
      · rw [hz, e0]
        exact (zi_j (by decide)).trans ((zi_j (by decide)).trans ((zi_j (by decide)).trans ((zi_j (by decide)).trans ((zi_j (by decide)).trans ((zi_j (by decide)).trans (zi_s))))))
      · rw [hz, e0]
        exact (zi_j (by decide)).trans ((zi_j (by decide)).trans ((zi_j (by decide)).trans ((zi_j (by decide)).trans ((zi_j (by decide)).trans (zi_s)))))
      · rw [hz, e0]
        exact (zi_j (by decide)).trans ((zi_j (by decide)).trans ((zi_j (by decide)).trans ((zi_j (by decide)).trans (zi_s))))
      · rw [hz, e0]
        exact (zi_j (by decide)).trans ((zi_j (by decide)).trans ((zi_j (by decide)).trans (zi_s)))
      · rw [hz, e0]
        exact (zi_j (by decide)).trans ((zi_j (by decide)).trans (zi_s))
      · rw [hz, e0]
        exact (zi_j (by decide)).trans (zi_s)
      · rw [hz, e0]
        exact zi_s
      · rw [hz, e0]
        refine (zi_j (by decide)).trans ((zi_j (by decide)).trans ((zi_j (by decide)).trans ((zi_j (by decide)).trans ((zi_j (by decide)).trans ((zi_j (by decide)).trans ((zi_j (by decide)).trans ((zi_j (by decide)).trans ((zi_j (by decide)).trans ((zi_j (by decide)).trans (?_))))))))))
        show zi (znw h 0 0 12) 0 (zct h 0) 10 = zE 0
        exact (znw_0 (h := h) (k := 0) (n := 0) (sl := 12)).trans zE_0
      · rw [e0]
        show zr (zatB h) 0 (zct h 0) 11 = _
        exact zr_s.trans (by rw [← e21, e0])
      · rw [e21]
        exact zln_n (h := znw h 0 0 12) (k := 21) (n := 3) (sl := 3)
      · rw [e21]
        exact (znw_0 (h := znw h 0 0 12) (k := 21) (n := 3) (sl := 3)).trans zE_0
    · obtain ⟨p0, p1, p2, p3, p4, p5, p6, p7, p8, p9, p10, p11, p12, p13, p14⟩ := t2 u u0' (by omega)
      have e0 : u.toNat ≠ zct h 0 := by omega
      have el : u.toNat ≠ zln h 14 0 := by omega
      have e21 : u.toNat ≠ zct h 21 := by omega
      simp only [if_neg eu]
      have hy : ∀ j, zi (zadx (zatH h (s 2 0) a b c d e f g p q) 14 0 (zct h 0)) 0 u.toNat j = zi h 0 u.toNat j := fun j => by
        rw [hz]
        refine (zi_i e0).trans ((zi_i e0).trans ((zi_i e0).trans ((zi_i e0).trans ((zi_i e0).trans ((zi_i e0).trans ((zi_i e0).trans ((zi_i e0).trans ((zi_i e0).trans ((zi_i e0).trans (?_))))))))))
        show zi (znw h 0 0 12) 0 u.toNat j = _
        exact znw_i e0
      refine ⟨?_, (hy 0).trans p1, (hy 1).trans p2, (hy 2).trans p3, (hy 3).trans p4, (hy 4).trans p5, (hy 5).trans p6, (hy 6).trans p7, (hy 7).trans p8, (hy 8).trans p9, (hy 9).trans p10, (hy 10).trans p11, ?_, ?_, fun r r0 r1 => ?_⟩
      · show zr (zsr (zatH h (s 2 0) a b c d e f g p q) 14 0 (zln h 14 0) (some (0, zct h 0))) 14 0 u.toNat = _
        rw [zr_j el]
        exact p0
      · show zr (zatB h) 0 u.toNat 11 = _
        refine (zr_i e0).trans ?_
        show zr (znw h 0 0 12) 0 u.toNat 11 = _
        exact (znw_r (h := h) (n := 0) (sl := 12) e0).trans p12
      · exact (zln_o (h := znw h 0 0 12) (n := 3) (sl := 3) e21).trans p13
      · exact (znw_i (h := znw h 0 0 12) (n := 3) (sl := 3) e21).trans (p14 r r0 r1)
  · rw [zatS_2]
    have : zct (zadx (zatH h (s 2 0) a b c d e f g p q) 14 0 (zct h 0)) 0 = zct h 0 + 1 := zct_n (h := h) (k := 0) (n := 0) (sl := 12)
    omega
  · rw [zatS_2]
    have : zct (zadx (zatH h (s 2 0) a b c d e f g p q) 14 0 (zct h 0)) 21 = zct h 21 + 1 := zct_n (h := znw h 0 0 12) (k := 21) (n := 3) (sl := 3)
    omega
def zatO (a b c d e f g : Int) : Prop := (0 ≤ a ∧ a ≤ 3) ∧ (0 ≤ b ∧ b ≤ 5) ∧ (0 ≤ c ∧ c ≤ 255) ∧ (0 ≤ d ∧ d ≤ 255) ∧ (1 ≤ f ∧ f ≤ 255) ∧ (0 ≤ g ∧ g ≤ 7)
def zatN (a d e : Int) : Prop := (d = 0 → e = -1) ∧ (d ≠ 0 → (0 ≤ e ∧ e ≤ 3) ∧ e ≠ a)
theorem zatS_W {s : zS} {a b c d e f g p q : Int} (hW : zWf s) (h30 : s 2 0 < 30) (ho : zatO a b c d e f g) (hn : zatN a d e) (hp : 0 ≤ p ∧ p ≤ 1) (hq : 0 ≤ q ∧ q ≤ 1) : zWf (zatS s a b c d e f g p q) := by
  obtain ⟨wA, wK, wC, wD, wP, wR, wZ, wT, wG, wE, wM, wX⟩ := hW
  have hn0 := wA.1
  obtain ⟨o1, o2, o3, o4, o5, o6⟩ := ho
  have k3 : ∀ u, u < s 2 0 → zatS s a b c d e f g p q 3 u = s 3 u := fun u hu => by rw [zatS_3, if_neg (by omega)]
  refine ⟨⟨?_, fun u u0 u1 => ?_⟩, fun k k0 k1 => ?_, ⟨wC.1, fun k k0 k1 => ?_⟩, wD, wP, ⟨wR.1, wR.2.1, fun r r0 r1 => ?_⟩, wZ, wT, wG, wE, wM, wX⟩
  · rw [zatS_2]; omega
  · rw [zatS_2] at u1
    simp only [zatS_3, zatS_4, zatS_5, zatS_6, zatS_7, zatS_8, zatS_9, zatS_10, zatS_11]
    by_cases eu : u = s 2 0
    · simp only [if_pos eu]
      have h1 : d = 0 ↔ e = -1 := ⟨hn.1, fun z => Classical.not_not.mp fun y => by have := (hn.2 y).1; omega⟩
      have h2 : -1 ≤ e ∧ e < 4 ∧ e ≠ a := by
        by_cases y : d = 0
        · have := hn.1 y; omega
        · have := hn.2 y; omega
      exact ⟨by omega, by omega, by omega, by omega, h2, by omega, by omega, hp, hq, h1⟩
    · simp only [if_neg eu]
      exact wA.2 u u0 (by omega)
  · obtain ⟨k1', k2', k3', k4', k5', k6'⟩ := wK k k0 k1
    show (-1 ≤ s 12 k ∧ s 12 k < zatS s a b c d e f g p q 2 0) ∧ (-1 ≤ s 13 k ∧ s 13 k < zatS s a b c d e f g p q 2 0) ∧ (0 ≤ s 14 k ∧ s 14 k ≤ 100) ∧ (s 13 k = -1 ↔ s 14 k = 0) ∧ (s 12 k ≠ -1 → zatS s a b c d e f g p q 3 (s 12 k) = k / 3) ∧ (s 13 k ≠ -1 → zatS s a b c d e f g p q 3 (s 13 k) = k / 3)
    rw [zatS_2, k3 _ k1'.2, k3 _ k2'.2]
    exact ⟨by omega, by omega, k3', k4', k5', k6'⟩
  · obtain ⟨k1', k2', k3'⟩ := wC.2 k k0 k1
    show -1 ≤ s 18 k ∧ s 18 k < zatS s a b c d e f g p q 2 0 ∧ (s 18 k ≠ -1 → zatS s a b c d e f g p q 3 (s 18 k) = k / 200)
    rw [zatS_2, k3 _ k2']
    exact ⟨k1', by omega, k3'⟩
  · obtain ⟨q1, q2, q3, q4, q5, q6, q7, q8, q9, q10, q11⟩ := wR.2.2 r r0 r1
    refine ⟨⟨q1.1, ?_⟩, q2, q3, q4, q5, q6, q7, q8, q9, q10, fun v v0 v1 => ?_⟩
    · rw [zatS_2]
      show s 31 r < _
      omega
    · obtain ⟨y1, y2⟩ := q11 v v0 v1
      refine ⟨y1, fun z => ?_⟩
      obtain ⟨y3, y4, y5, y6⟩ := y2 z
      show -1 ≤ s 42 (3 * r + v) ∧ s 42 (3 * r + v) < zatS s a b c d e f g p q 2 0 ∧ s 42 (3 * r + v) ≠ s 31 r ∧ (s 42 (3 * r + v) ≠ -1 → zatS s a b c d e f g p q 3 (s 42 (3 * r + v)) = zatS s a b c d e f g p q 3 (s 31 r))
      rw [zatS_2, k3 _ y4, k3 _ q1.2]
      exact ⟨y3, by omega, y5, y6⟩
theorem zc41 {h : zH} {a d e : Int} (a1 : -2147483648 ≤ a) (a2 : a < 2147483648) (d1 : -2147483648 ≤ d) (d2 : d < 2147483648) (e1 : -2147483648 ≤ e) (e2 : e < 2147483648) : (zatN a d e → zm41 (zE a) (zE d) (zE e) h = some (.inl (), h)) ∧ (¬ zatN a d e → zm41 (zE a) (zE d) (zE e) h = some (.inr 0, zro h 1 6)) := by
  by_cases y : d = 0
  · by_cases z : e = -1
    · have hz : -1 ≤ e ∧ e ≤ -1 := by omega
      refine ⟨fun _ => ?_, fun n => absurd ⟨fun _ => z, fun k => absurd y k⟩ n⟩
      simp (discharger := omega) only [zm41, zE_0, zE_1, zE_2, zE_3, zE_4, zE_5, zE_6, zE_7, zE_8, zE_9, zE_10, zE_11, zE_12, zE_13, zE_14, zE_neg, zE_m1, y, if_true, zc131, if_pos hz, ↓zb_s]
    · have hz : ¬ (-1 ≤ e ∧ e ≤ -1) := by omega
      refine ⟨fun n => absurd (n.1 y) z, fun _ => ?_⟩
      simp (discharger := omega) only [zm41, zE_0, zE_1, zE_2, zE_3, zE_4, zE_5, zE_6, zE_7, zE_8, zE_9, zE_10, zE_11, zE_12, zE_13, zE_14, zE_neg, zE_m1, y, if_true, zc131, if_neg hz, ↓zb_x]
  · by_cases z : 0 ≤ e ∧ e ≤ 3
    · by_cases k : e = a
      · refine ⟨fun n => absurd k (n.2 y).2, fun _ => ?_⟩
        subst k
        simp (discharger := omega) only [zm41, zE_0, zE_1, zE_2, zE_3, zE_4, zE_5, zE_6, zE_7, zE_8, zE_9, zE_10, zE_11, zE_12, zE_13, zE_14, zE_neg, zE_inj, y, if_false, zc131, if_pos z, ↓zb_s, if_true]
      · refine ⟨fun _ => ?_, fun n => absurd ⟨fun k => absurd k y, fun _ => ⟨z, k⟩⟩ n⟩
        simp (discharger := omega) only [zm41, zE_0, zE_1, zE_2, zE_3, zE_4, zE_5, zE_6, zE_7, zE_8, zE_9, zE_10, zE_11, zE_12, zE_13, zE_14, zE_neg, zE_inj, y, if_false, zc131, if_pos z, ↓zb_s, k]
    · refine ⟨fun n => absurd (n.2 y).1 z, fun _ => ?_⟩
      simp (discharger := omega) only [zm41, zE_0, zE_1, zE_2, zE_3, zE_4, zE_5, zE_6, zE_7, zE_8, zE_9, zE_10, zE_11, zE_12, zE_13, zE_14, zE_neg, zE_inj, y, if_false, zc131, if_neg z, ↓zb_x]
theorem zp145_38 {h : zH} {a d e : Int} {x0 : zq} {x2 x3 x6 x7 x8 x9 : Int32} (a1 : -2147483648 ≤ a) (a2 : a < 2147483648) (d1 : -2147483648 ≤ d) (d2 : d < 2147483648) (e1 : -2147483648 ≤ e) (e2 : e < 2147483648) : ∃ t, zbo t (zatN a d e) ∧ zm145_38 x0 (zE a) x2 x3 (zE d) (zE e) x6 x7 x8 x9 (zE 1) h = zm145_56 x0 (zE a) x2 x3 (zE d) (zE e) x6 x7 x8 x9 (zE t) h := by
  have z1 : ¬ zE 1 = zE 0 := by decide
  by_cases y : d = 0
  · by_cases z : e = -1
    · refine ⟨1, zbo_1 ⟨fun _ => z, fun k => absurd y k⟩, ?_⟩
      simp (discharger := omega) only [zm145_38, zE_0, zE_1, zE_2, zE_3, zE_4, zE_5, zE_6, zE_7, zE_8, zE_9, zE_10, zE_11, zE_12, zE_13, zE_14, zE_neg, zE_m1, z1, if_false, y, z, if_true]
    · refine ⟨0, zbo_0 fun n => z (n.1 y), ?_⟩
      simp (discharger := omega) only [zm145_38, zE_0, zE_1, zE_2, zE_3, zE_4, zE_5, zE_6, zE_7, zE_8, zE_9, zE_10, zE_11, zE_12, zE_13, zE_14, zE_neg, zE_m1, z1, if_false, y, zE_inj, z, if_true]
  · obtain ⟨t, t1, t2⟩ := zp140 (h := h) e1 e2
    rcases t1 with ⟨rfl, t1⟩ | ⟨rfl, t1⟩
    · by_cases k : e = a
      · refine ⟨0, zbo_0 fun n => (n.2 y).2 k, ?_⟩
        subst k
        simp (discharger := omega) only [zm145_38, zE_0, zE_1, zE_2, zE_3, zE_4, zE_5, zE_6, zE_7, zE_8, zE_9, zE_10, zE_11, zE_12, zE_13, zE_14, zE_neg, z1, if_false, zE_inj, y, t2, ↓zb_s, if_true]
      · refine ⟨1, zbo_1 ⟨fun k => absurd k y, fun _ => ⟨t1, k⟩⟩, ?_⟩
        simp (discharger := omega) only [zm145_38, zE_0, zE_1, zE_2, zE_3, zE_4, zE_5, zE_6, zE_7, zE_8, zE_9, zE_10, zE_11, zE_12, zE_13, zE_14, zE_neg, z1, if_false, zE_inj, y, t2, ↓zb_s, k]
    · refine ⟨0, zbo_0 fun n => t1 (n.2 y).1, ?_⟩
      simp (discharger := omega) only [zm145_38, zE_0, zE_1, zE_2, zE_3, zE_4, zE_5, zE_6, zE_7, zE_8, zE_9, zE_10, zE_11, zE_12, zE_13, zE_14, zE_neg, z1, if_false, zE_inj, y, t2, ↓zb_s, if_true]
theorem zp145_x {x1 x2 x3 x4 x5 x6 x7 x8 x9 : Int32} {t : Int} {h : zH} (t1 : 1 ≤ t) (t2 : t ≤ 2) : zm145_69 (some (13, 0)) x1 x2 x3 x4 x5 x6 x7 x8 x9 (some (13, 0)) (zE t) h = some (.inl (zE 0), zsi h 13 0 0 (zE t)) := by
  rw [zm145_69, zM_ob, zlet_s, zM_ob, if_neg, zE_0]
  rw [zi_s, zE_0, zE_le (by omega) (by omega) (by omega) (by omega)]
  omega
theorem zp145_0 {h : zH} {a b c d e f g : Int} {x8 x9 : Int32} (a1 : -2147483648 ≤ a) (a2 : a < 2147483648) (b1 : -2147483648 ≤ b) (b2 : b < 2147483648) (c1 : -2147483648 ≤ c) (c2 : c < 2147483648) (d1 : -2147483648 ≤ d) (d2 : d < 2147483648) (e1 : -2147483648 ≤ e) (e2 : e < 2147483648) (f1 : -2147483648 ≤ f) (f2 : f < 2147483648) (g1 : -2147483648 ≤ g) (g2 : g < 2147483648) :
    ∃ t, zbo t ((zatO a b c d e f g ∧ zbt f g) ∧ zatN a d e) ∧ zm145 (some (13, 0)) (zE a) (zE b) (zE c) (zE d) (zE e) (zE f) (zE g) x8 x9 h = zm145_56 (some (13, 0)) (zE a) (zE b) (zE c) (zE d) (zE e) (zE f) (zE g) x8 x9 (zE t) h := by
  have z1 : ¬ zE 1 = zE 0 := by decide
  have z01 : ¬ zE 0 = zE 1 := by decide
  have no : zm145_38 (some (13, 0)) (zE a) (zE b) (zE c) (zE d) (zE e) (zE f) (zE g) x8 x9 (zE 0) h = zm145_56 (some (13, 0)) (zE a) (zE b) (zE c) (zE d) (zE e) (zE f) (zE g) x8 x9 (zE 0) h := by
    rw [zm145_38, if_pos zE_0.symm, zE_0]
  obtain ⟨p1, r1, m1⟩ := zp140 (h := h) a1 a2
  obtain ⟨p2, r2, m2⟩ := zp139i (h := h) (lo := 0) (hi := 5) b1 b2 (by omega) (by omega) (by omega) (by omega)
  obtain ⟨p3, r3, m3⟩ := zp139i (h := h) (lo := 0) (hi := 255) c1 c2 (by omega) (by omega) (by omega) (by omega)
  obtain ⟨p4, r4, m4⟩ := zp139i (h := h) (lo := 0) (hi := 255) d1 d2 (by omega) (by omega) (by omega) (by omega)
  obtain ⟨p5, r5, m5⟩ := zp139i (h := h) (lo := 1) (hi := 255) f1 f2 (by omega) (by omega) (by omega) (by omega)
  obtain ⟨p6, r6, m6⟩ := zp139i (h := h) (lo := 0) (hi := 7) g1 g2 (by omega) (by omega) (by omega) (by omega)
  rcases r1 with ⟨rfl, r1⟩ | ⟨rfl, r1⟩
  · rcases r2 with ⟨rfl, r2⟩ | ⟨rfl, r2⟩
    · rcases r3 with ⟨rfl, r3⟩ | ⟨rfl, r3⟩
      · rcases r4 with ⟨rfl, r4⟩ | ⟨rfl, r4⟩
        · rcases r5 with ⟨rfl, r5⟩ | ⟨rfl, r5⟩
          · rcases r6 with ⟨rfl, r6⟩ | ⟨rfl, r6⟩
            · obtain ⟨v, v1, v2⟩ := zbt_m (x := f) (k := g) (by omega) (by omega) r6.1 r6.2
              rcases v1 with ⟨rfl, v1⟩ | ⟨rfl, v1⟩
              · obtain ⟨t, t1, t2⟩ := zp145_38 (h := h) (x0 := some (13, 0)) (x2 := zE b) (x3 := zE c) (x6 := zE f) (x7 := zE g) (x8 := x8) (x9 := x9) a1 a2 d1 d2 e1 e2
                refine ⟨t, t1.cg ⟨fun z => ⟨⟨⟨r1, r2, r3, r4, r5, r6⟩, v1⟩, z⟩, fun z => z.2⟩, ?_⟩
                simp (discharger := omega) only [zm145, zE_0, zE_1, zE_2, zE_3, zE_4, zE_5, zE_6, zE_7, zE_8, zE_9, zE_10, zE_11, zE_12, zE_13, zE_14, zE_neg, zE_255, m1, m2, m3, m4, m5, m6, ↓zb_s, z1, if_false, v2, if_true, t2]
              · refine ⟨0, zbo_0 fun z => v1 z.1.2, ?_⟩
                simp (discharger := omega) only [zm145, zE_0, zE_1, zE_2, zE_3, zE_4, zE_5, zE_6, zE_7, zE_8, zE_9, zE_10, zE_11, zE_12, zE_13, zE_14, zE_neg, zE_255, m1, m2, m3, m4, m5, m6, ↓zb_s, z1, if_false, v2, z01, no]
            · refine ⟨0, zbo_0 fun z => r6 z.1.1.2.2.2.2.2, ?_⟩
              simp (discharger := omega) only [zm145, zE_0, zE_1, zE_2, zE_3, zE_4, zE_5, zE_6, zE_7, zE_8, zE_9, zE_10, zE_11, zE_12, zE_13, zE_14, zE_neg, zE_255, m1, m2, m3, m4, m5, m6, ↓zb_s, z1, if_false, if_true, no]
          · refine ⟨0, zbo_0 fun z => r5 z.1.1.2.2.2.2.1, ?_⟩
            simp (discharger := omega) only [zm145, zE_0, zE_1, zE_2, zE_3, zE_4, zE_5, zE_6, zE_7, zE_8, zE_9, zE_10, zE_11, zE_12, zE_13, zE_14, zE_neg, zE_255, m1, m2, m3, m4, m5, ↓zb_s, z1, if_false, if_true, no]
        · refine ⟨0, zbo_0 fun z => r4 z.1.1.2.2.2.1, ?_⟩
          simp (discharger := omega) only [zm145, zE_0, zE_1, zE_2, zE_3, zE_4, zE_5, zE_6, zE_7, zE_8, zE_9, zE_10, zE_11, zE_12, zE_13, zE_14, zE_neg, zE_255, m1, m2, m3, m4, ↓zb_s, z1, if_false, if_true, no]
      · refine ⟨0, zbo_0 fun z => r3 z.1.1.2.2.1, ?_⟩
        simp (discharger := omega) only [zm145, zE_0, zE_1, zE_2, zE_3, zE_4, zE_5, zE_6, zE_7, zE_8, zE_9, zE_10, zE_11, zE_12, zE_13, zE_14, zE_neg, zE_255, m1, m2, m3, ↓zb_s, z1, if_false, if_true, no]
    · refine ⟨0, zbo_0 fun z => r2 z.1.1.2.1, ?_⟩
      simp (discharger := omega) only [zm145, zE_0, zE_1, zE_2, zE_3, zE_4, zE_5, zE_6, zE_7, zE_8, zE_9, zE_10, zE_11, zE_12, zE_13, zE_14, zE_neg, zE_255, m1, m2, ↓zb_s, z1, if_false, if_true, no]
  · refine ⟨0, zbo_0 fun z => r1 z.1.1.1, ?_⟩
    simp (discharger := omega) only [zm145, zE_0, zE_1, zE_2, zE_3, zE_4, zE_5, zE_6, zE_7, zE_8, zE_9, zE_10, zE_11, zE_12, zE_13, zE_14, zE_neg, zE_255, m1, ↓zb_s, if_true, no]
theorem zr_artefact (x1 x2 x3 x4 x5 x6 x7 : Int32) {p q : Int} (hp : p = 0 ∨ p = 1) (hq : q = 0 ∨ q = 1) : zPrI (fun h => zm40 (some (12, 0)) x1 x2 x3 x4 x5 x6 x7 (zE p) (zE q) h) (fun h => zm145 (some (13, 0)) x1 x2 x3 x4 x5 x6 x7 (zE p) (zE q) h) (fun t => if t = 1 then 0 else 1) 2 := by
  intro h s hC hM hW
  obtain ⟨a, rfl, a1, a2⟩ := zE_ex x1
  obtain ⟨b, rfl, b1, b2⟩ := zE_ex x2
  obtain ⟨c, rfl, c1, c2⟩ := zE_ex x3
  obtain ⟨d, rfl, d1, d2⟩ := zE_ex x4
  obtain ⟨e, rfl, e1, e2⟩ := zE_ex x5
  obtain ⟨f, rfl, f1, f2⟩ := zE_ex x6
  obtain ⟨g, rfl, g1, g2⟩ := zE_ex x7
  have z1 : ¬ zE 1 = zE 0 := by decide
  have hC0 := hC
  have hW0 := hW
  obtain ⟨cr, cs, cA, -⟩ := hC
  have cN := hC0.2.2.2.2.2.2.2.2.2.2.2.2.2
  obtain ⟨wA, wK, wC, wD, wP, wR, wZ, wT, wG, wE, wM, wX⟩ := hW
  have hn := wA.1
  have ep : zE p = 0 ∨ zE p = 1 := zE_01 hp
  have eq : zE q = 0 ∨ zE q = 1 := zE_01 hq
  have ep' : zE p = zE 0 ∨ zE p = zE 1 := ep
  have eq' : zE q = zE 0 ∨ zE q = zE 1 := eq
  obtain ⟨k1, k2⟩ := zc41 (h := h) a1 a2 d1 d2 e1 e2
  have mm : ∀ h', ∃ t, zbo t ((zatO a b c d e f g ∧ zbt f g) ∧ zatN a d e) ∧ zm145 (some (13, 0)) (zE a) (zE b) (zE c) (zE d) (zE e) (zE f) (zE g) (zE p) (zE q) h' = zm145_56 (some (13, 0)) (zE a) (zE b) (zE c) (zE d) (zE e) (zE f) (zE g) (zE p) (zE q) (zE t) h' := fun h' => zp145_0 a1 a2 b1 b2 c1 c2 d1 d2 e1 e2 f1 f2 g1 g2
  by_cases ok : (zatO a b c d e f g ∧ zbt f g) ∧ zatN a d e
  · have mm : ∀ h', zm145 (some (13, 0)) (zE a) (zE b) (zE c) (zE d) (zE e) (zE f) (zE g) (zE p) (zE q) h' = zm145_56 (some (13, 0)) (zE a) (zE b) (zE c) (zE d) (zE e) (zE f) (zE g) (zE p) (zE q) (zE 1) h' := fun h' => by
      obtain ⟨t, t1, t2⟩ := mm h'
      rwa [t1.u (zbo_1 ok)] at t2
    have k1 := k1 ok.2
    have oo := ok.1.1
    obtain ⟨o1, o2, o3, o4, o5, o6⟩ := oo
    obtain ⟨v, v1, v2⟩ := zc133 (h := h) (x := f) (k := g) (by omega) (by omega) o6.1 o6.2
    have : v = 1 := v1.u (zbo_1 ok.1.2)
    subst this
    by_cases c4 : s 2 0 = 30
    · refine zexI (t := 2) hC0 hW0 (by omega) (by omega) ?_ (fun h' hM' => ?_)
      · simp (discharger := omega) only [zm40, zE_0, zE_1, zE_2, zE_3, zE_4, zE_5, zE_6, zE_7, zE_8, zE_9, zE_10, zE_11, zE_12, zE_13, zE_14, zE_neg, zE_255, zE_30, zc131, if_pos o1, if_pos o2, if_pos o3, if_pos o4, if_pos o5, if_pos o6, ↓zb_s, k1, v2, z1, if_false, ↓zo_12, ↓zLAz cr cA, c4, zE_lt, Int.lt_irrefl]
        rfl
      · show zm145 (some (13, 0)) (zE a) (zE b) (zE c) (zE d) (zE e) (zE f) (zE g) (zE p) (zE q) h' = _
        rw [mm]
        simp (discharger := omega) only [zm145_56, zE_0, zE_1, zE_2, zE_3, zE_4, zE_5, zE_6, zE_7, zE_8, zE_9, zE_10, zE_11, zE_12, zE_13, zE_14, zE_neg, z1, if_false, ↓zM_ob, zMs2 hM', c4, zE_30, if_true]
        exact zp145_x (t := 2) (by omega) (by omega)
    · have c5 : s 2 0 < 30 := by omega
      have hC' := zatH_C (a := a) (b := b) (c := c) (d := d) (e := e) (f := f) (g := g) (p := p) (q := q) hC0 hW0
      have hW' := zatS_W (p := p) (q := q) hW0 c5 ok.1.1 ok.2 (by omega) (by omega)
      have hl := cA.1.2
      have hct := cN.1
      obtain ⟨cc, nn, hc1, hn1, he⟩ := zladd_e (h := zatH h (s 2 0) a b c d e f g p q) (k := 14) (k2 := 0) (i2 := zct h 0) (show zln h 14 0 < 33 by omega)
      have hC2 : zCl (zladd (zatH h (s 2 0) a b c d e f g p q) 14 0 0 (zct h 0)) (zatS s a b c d e f g p q) := by
        rw [he]
        exact hC'.kp zKp_o
      have hK2 : zKp (fun k => ¬ zpc1 k) h (zladd (zatH h (s 2 0) a b c d e f g p q) 14 0 0 (zct h 0)) := by
        rw [he]
        exact zKp.tr (zat_k _ (fun z => z (by unfold zpc1; decide)) (fun z => z (by unfold zpc1; decide)) (fun z => z (by unfold zpc1; decide))) zKp_o
      refine zokI (v := s 2 0) (by omega) hW' (h1 := zladd (zatH h (s 2 0) a b c d e f g p q) 14 0 0 (zct h 0)) ?_ hC2 hK2 ?_ ?_ (fun h' hM' => ?_)
      · have y1 : zelB (zatH h (s 2 0) a b c d e f g p q) 14 0 = true := zel_t 0 ⟨rfl, rfl⟩ fun j hj => by
          have := (cA.2 (j : Int) (by omega) (by have : j < zln h 14 0 := hj; omega)).1
          exact this
        have y2 : zi (zatH h (s 2 0) a b c d e f g p q) 14 0 1 = 1 := cA.1.1
        have y3 : zln (zatH h (s 2 0) a b c d e f g p q) 14 0 < 33 := show zln h 14 0 < 33 by omega
        have y0 : ¬ ((3 : Int32) < 0 ∨ 100000 < (3 : Int32).toNatClampNeg) := by decide
        have y4 : zm0 (some (0, zct h 0)) (zE (s 2 0)) (zE a) (zE b) (znw h 0 0 12) = some (.inl (), zsi (zsi (zsi (zatB h) 0 (zct h 0) 0 (zE (s 2 0))) 0 (zct h 0) 1 (zE a)) 0 (zct h 0) 2 (zE b)) := by
          rw [zm0, znn_s, if_neg y0, zlet_s, zo_0, zlet_s, zlet_s, zlet_s, zlet_s]
          rfl
        have y5 : ∀ fi : Int32 → zRs Int32, zlz (zr (znw h 0 0 12) 12 0 0) (znw h 0 0 12) fi = fi (zE (s 2 0)) := fun fi => zlz_s (show zr (znw h 0 0 12) 12 0 0 = some (14, 0) from zCr0 cr) rfl (show zi (znw h 0 0 12) 14 0 1 = 1 from cA.1.1) (show (zln (znw h 0 0 12) 14 0 : Int) = s 2 0 from cA.1.2)
        have y6 : zi (zladd (zatH h (s 2 0) a b c d e f g p q) 14 0 0 (zct h 0)) 0 (zct h 0) 0 = zE (s 2 0) := by
          have := zCa0 hC2.2.2.1 (a := s 2 0) (by omega) (by rw [zatS_2]; omega)
          rwa [show (s 2 0).toNat = zct h 0 by omega] at this
        show zm40 (some (12, 0)) (zE a) (zE b) (zE c) (zE d) (zE e) (zE f) (zE g) (zE p) (zE q) h = _
        simp (discharger := omega) only [zm40, zE_0, zE_1, zE_2, zE_3, zE_4, zE_5, zE_6, zE_7, zE_8, zE_9, zE_10, zE_11, zE_12, zE_13, zE_14, zE_neg, zE_255, zE_30, zc131, if_pos o1, if_pos o2, if_pos o3, if_pos o4, if_pos o5, if_pos o6, ↓zb_s, k1, v2, z1, if_false, ↓zo_12, ↓zLAz cr cA, zE_lt, c5, if_true]
        rw [zlet_s, y5, zo_0, y4, zb2_s, zlet_s, zo_0, zlet_s, zlet_s, zlet_s, zlet_s, zlet_s, zif_s ep', zlet_s, zif_s eq', zlet_s]
        show znn (zr (zatH h (s 2 0) a b c d e f g p q) 12 0 0) _ = _
        rw [show zr (zatH h (s 2 0) a b c d e f g p q) 12 0 0 = some (14, 0) from zCr0 cr, znn_s, znn_s]
        show zif _ (zif (zi (zatH h (s 2 0) a b c d e f g p q) 14 0 1 = zE 1 ∧ zln (zatH h (s 2 0) a b c d e f g p q) 14 0 < 33) (zlet (zladd (zatH h (s 2 0) a b c d e f g p q) 14 0 0 (zct h 0)) _)) = _
        rw [zif_s (by show (ztg 14 == 9 && ztg 0 == 0 && (zkc 0 == zel 14 && zelB (zatH h (s 2 0) a b c d e f g p q) 14 0)) = true; rw [y1]; rfl), zif_s ⟨by rw [y2, zE_1], y3⟩, zlet_s, y6]
      · rw [he]
        show zce h + 1 + 1 + cc ≤ _
        omega
      · rw [he]
        show zso h + 12 + 3 + nn ≤ _
        omega
      · have hM1 := hM'.ws 0 (by decide) 0
        have hM2 := hM1.wa (3, 103, 30) (by decide) (s 2 0) a (by omega)
        have hM3 := hM2.wa (4, 104, 30) (by decide) (s 2 0) b (by omega)
        have hM4 := hM3.wa (5, 105, 30) (by decide) (s 2 0) c (by omega)
        have hM5 := hM4.wa (6, 106, 30) (by decide) (s 2 0) d (by omega)
        have hM6 := hM5.wa (7, 107, 30) (by decide) (s 2 0) e (by omega)
        have hM7 := hM6.wa (8, 108, 30) (by decide) (s 2 0) f (by omega)
        have hM8 := hM7.wa (9, 109, 30) (by decide) (s 2 0) g (by omega)
        have hM9 := hM8.wa (10, 210, 30) (by decide) (s 2 0) p (by omega)
        have hM10 := hM9.wa (11, 211, 30) (by decide) (s 2 0) q (by omega)
        have hM11 := hM10.ws 2 (by decide) (s 2 0 + 1)
        refine ⟨_, zsc_c (zsc_c (zsc_c (zsc_c (zsc_c (zsc_c (zsc_c (zsc_c (zsc_c (zsc_c zsc_up))))))))), ?_, _, ?_, hM11, ((((((((((zKp_i (fun z => z (Or.inl rfl))).tr (zKp_i (fun z => z (Or.inr (by decide))))).tr (zKp_i (fun z => z (Or.inr (by decide))))).tr (zKp_i (fun z => z (Or.inr (by decide))))).tr (zKp_i (fun z => z (Or.inr (by decide))))).tr (zKp_i (fun z => z (Or.inr (by decide))))).tr (zKp_i (fun z => z (Or.inr (by decide))))).tr (zKp_i (fun z => z (Or.inr (by decide))))).tr (zKp_i (fun z => z (Or.inr (by decide))))).tr (zKp_i (fun z => z (Or.inr (by decide))))).tr (zKp_i (fun z => z (Or.inl rfl))), rfl, rfl⟩
        · exact (zup_j (by decide)).trans ((zup_j (by decide)).trans ((zup_j (by decide)).trans ((zup_j (by decide)).trans ((zup_j (by decide)).trans ((zup_j (by decide)).trans ((zup_j (by decide)).trans ((zup_j (by decide)).trans ((zup_j (by decide)).trans ((zup_j (by decide)).trans zup_s)))))))))
        · show zm145 (some (13, 0)) (zE a) (zE b) (zE c) (zE d) (zE e) (zE f) (zE g) (zE p) (zE q) h' = _
          rw [mm]
          have h1 : zup s 0 0 0 2 0 = s 2 0 := rfl
          have h2 : zup (zup s 0 0 0) 3 (s 2 0) a 2 0 = s 2 0 := rfl
          have h3 : zup (zup (zup s 0 0 0) 3 (s 2 0) a) 4 (s 2 0) b 2 0 = s 2 0 := rfl
          have h4 : zup (zup (zup (zup s 0 0 0) 3 (s 2 0) a) 4 (s 2 0) b) 5 (s 2 0) c 2 0 = s 2 0 := rfl
          have h5 : zup (zup (zup (zup (zup s 0 0 0) 3 (s 2 0) a) 4 (s 2 0) b) 5 (s 2 0) c) 6 (s 2 0) d 2 0 = s 2 0 := rfl
          have h6 : zup (zup (zup (zup (zup (zup s 0 0 0) 3 (s 2 0) a) 4 (s 2 0) b) 5 (s 2 0) c) 6 (s 2 0) d) 7 (s 2 0) e 2 0 = s 2 0 := rfl
          have h7 : zup (zup (zup (zup (zup (zup (zup s 0 0 0) 3 (s 2 0) a) 4 (s 2 0) b) 5 (s 2 0) c) 6 (s 2 0) d) 7 (s 2 0) e) 8 (s 2 0) f 2 0 = s 2 0 := rfl
          have h8 : zup (zup (zup (zup (zup (zup (zup (zup s 0 0 0) 3 (s 2 0) a) 4 (s 2 0) b) 5 (s 2 0) c) 6 (s 2 0) d) 7 (s 2 0) e) 8 (s 2 0) f) 9 (s 2 0) g 2 0 = s 2 0 := rfl
          have h9 : zup (zup (zup (zup (zup (zup (zup (zup (zup s 0 0 0) 3 (s 2 0) a) 4 (s 2 0) b) 5 (s 2 0) c) 6 (s 2 0) d) 7 (s 2 0) e) 8 (s 2 0) f) 9 (s 2 0) g) 10 (s 2 0) p 2 0 = s 2 0 := rfl
          have h10 : zup (zup (zup (zup (zup (zup (zup (zup (zup (zup s 0 0 0) 3 (s 2 0) a) 4 (s 2 0) b) 5 (s 2 0) c) 6 (s 2 0) d) 7 (s 2 0) e) 8 (s 2 0) f) 9 (s 2 0) g) 10 (s 2 0) p) 11 (s 2 0) q 2 0 = s 2 0 := rfl
          have ezp : ∀ g : zRs Int32, zif (zE p = zE 0 ∨ zE p = zE 1) g = g := fun g => zif_s ep'
          have ezq : ∀ g : zRs Int32, zif (zE q = zE 0 ∨ zE q = zE 1) g = g := fun g => zif_s eq'
          simp (discharger := omega) only [zm145_56, zE_0, zE_1, zE_2, zE_3, zE_4, zE_5, zE_6, zE_7, zE_8, zE_9, zE_10, zE_11, zE_12, zE_13, zE_14, zE_neg, zE_30, z1, if_false, ↓zM_ob, zMs2 hM', zE_inj, c4]
          simp (discharger := omega) only [zm145_69, zE_0, zE_1, zE_2, zE_3, zE_4, zE_5, zE_6, zE_7, zE_8, zE_9, zE_10, zE_11, zE_12, zE_13, zE_14, zE_neg, ↓zM_ob, ↓zlet_s, zMs0 hM1, zup_s, Int32.le_refl, if_true, zMs2 hM1, h1, ↓zMa3 hM1, zMs2 hM2, h2, ↓zMa4 hM2, zMs2 hM3, h3, ↓zMa5 hM3, zMs2 hM4, h4, ↓zMa6 hM4, zMs2 hM5, h5, ↓zMa7 hM5, zMs2 hM6, h6, ↓zMa8 hM6, zMs2 hM7, h7, ↓zMa9 hM7, zMs2 hM8, h8, ↓zMa10 hM8, ezp, zMs2 hM9, h9, ↓zMa11 hM9, ezq, zMs2 hM10, h10, zE_add, zMs2 hM11, zE_sub]
          congr 4
          omega
  · have mm : ∀ h', zm145 (some (13, 0)) (zE a) (zE b) (zE c) (zE d) (zE e) (zE f) (zE g) (zE p) (zE q) h' = zm145_56 (some (13, 0)) (zE a) (zE b) (zE c) (zE d) (zE e) (zE f) (zE g) (zE p) (zE q) (zE 0) h' := fun h' => by
      obtain ⟨t, t1, t2⟩ := mm h'
      rwa [t1.u (zbo_0 ok)] at t2
    refine zexI (t := 1) hC0 hW0 (by omega) (by omega) ?_ (fun h' hM' => ?_)
    · show zm40 (some (12, 0)) (zE a) (zE b) (zE c) (zE d) (zE e) (zE f) (zE g) (zE p) (zE q) h = some (.inr 0, zro h 1 6)
      by_cases o1 : 0 ≤ a ∧ a ≤ 3
      · by_cases o2 : 0 ≤ b ∧ b ≤ 5
        · by_cases o3 : 0 ≤ c ∧ c ≤ 255
          · by_cases o4 : 0 ≤ d ∧ d ≤ 255
            · by_cases on : zatN a d e
              · have k1 := k1 on
                by_cases o5 : 1 ≤ f ∧ f ≤ 255
                · by_cases o6 : 0 ≤ g ∧ g ≤ 7
                  · obtain ⟨v, v1, v2⟩ := zc133 (h := h) (x := f) (k := g) (by omega) (by omega) o6.1 o6.2
                    have : v = 0 := v1.u (zbo_0 fun z => ok ⟨⟨⟨o1, o2, o3, o4, o5, o6⟩, z⟩, on⟩)
                    subst this
                    simp (discharger := omega) only [zm40, zE_0, zE_1, zE_2, zE_3, zE_4, zE_5, zE_6, zE_7, zE_8, zE_9, zE_10, zE_11, zE_12, zE_13, zE_14, zE_neg, zE_255, zc131, if_pos o1, if_pos o2, if_pos o3, if_pos o4, if_pos o5, if_pos o6, ↓zb_s, k1, v2, if_true]
                  · simp (discharger := omega) only [zm40, zE_0, zE_1, zE_2, zE_3, zE_4, zE_5, zE_6, zE_7, zE_8, zE_9, zE_10, zE_11, zE_12, zE_13, zE_14, zE_neg, zE_255, zc131, if_pos o1, if_pos o2, if_pos o3, if_pos o4, if_pos o5, if_neg o6, ↓zb_s, k1, ↓zb_x]
                · simp (discharger := omega) only [zm40, zE_0, zE_1, zE_2, zE_3, zE_4, zE_5, zE_6, zE_7, zE_8, zE_9, zE_10, zE_11, zE_12, zE_13, zE_14, zE_neg, zE_255, zc131, if_pos o1, if_pos o2, if_pos o3, if_pos o4, if_neg o5, ↓zb_s, k1, ↓zb_x]
              · simp (discharger := omega) only [zm40, zE_0, zE_1, zE_2, zE_3, zE_4, zE_5, zE_6, zE_7, zE_8, zE_9, zE_10, zE_11, zE_12, zE_13, zE_14, zE_neg, zE_255, zc131, if_pos o1, if_pos o2, if_pos o3, if_pos o4, ↓zb_s, k2 on, ↓zb_x]
            · simp (discharger := omega) only [zm40, zE_0, zE_1, zE_2, zE_3, zE_4, zE_5, zE_6, zE_7, zE_8, zE_9, zE_10, zE_11, zE_12, zE_13, zE_14, zE_neg, zE_255, zc131, if_pos o1, if_pos o2, if_pos o3, if_neg o4, ↓zb_s, ↓zb_x]
          · simp (discharger := omega) only [zm40, zE_0, zE_1, zE_2, zE_3, zE_4, zE_5, zE_6, zE_7, zE_8, zE_9, zE_10, zE_11, zE_12, zE_13, zE_14, zE_neg, zE_255, zc131, if_pos o1, if_pos o2, if_neg o3, ↓zb_s, ↓zb_x]
        · simp (discharger := omega) only [zm40, zE_0, zE_1, zE_2, zE_3, zE_4, zE_5, zE_6, zE_7, zE_8, zE_9, zE_10, zE_11, zE_12, zE_13, zE_14, zE_neg, zE_255, zc131, if_pos o1, if_neg o2, ↓zb_s, ↓zb_x]
      · simp (discharger := omega) only [zm40, zE_0, zE_1, zE_2, zE_3, zE_4, zE_5, zE_6, zE_7, zE_8, zE_9, zE_10, zE_11, zE_12, zE_13, zE_14, zE_neg, zE_255, zc131, if_neg o1, ↓zb_x]
    · show zm145 (some (13, 0)) (zE a) (zE b) (zE c) (zE d) (zE e) (zE f) (zE g) (zE p) (zE q) h' = _
      rw [mm, zm145_56, if_pos zE_0.symm, zE_1]
      exact zp145_x (t := 1) (by omega) (by omega)
