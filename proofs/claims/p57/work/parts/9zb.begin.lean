set_option maxRecDepth 16384
/-! From the law's beginning to its end. -/
theorem zc39 {h : zH} (c : ∀ k, k ≠ 12 → zct h k = 0) (i12 : ∀ j, zi h 12 0 j = 0) : ∃ h', zm39 (some (12, 0)) h = some (.inl (), h') ∧ zCl h' zs0 ∧ zKp (fun k => ¬ zpc1 k) h h' ∧ zce h' ≤ zce h + 200 ∧ zso h' ≤ zso h + 3000 := by
  have e39 := zc39_e c
  obtain ⟨f1, f2, f14, f15, f16, f17, f18, f19, f33, f35⟩ := zpre_f c
  have K0 := zpre_k (h := h)
  have g1 : zce (zpreH h) = zce h + 11 := by
    show zce h + 1 + 1 + 1 + 1 + 1 + 1 + 1 + 1 + 1 + 1 + 1 = _
    omega
  have g2 : zso (zpreH h) = zso h + 236 := by
    show zso h + 3 + 3 + 3 + 3 + 3 + 3 + 4 + 8 + 3 + 3 + 200 = _
    omega
  generalize hH0 : zpreH h = H0 at *
  have c0 : ∀ k, k ≠ 12 → ¬ (14 ≤ k ∧ k ≤ 19) → ¬ (33 ≤ k ∧ k ≤ 37) → zct H0 k = 0 := fun k a b d => (K0 k ⟨a, b, d⟩).1.trans (c k a)
  have PV : zPV 0 H0 := ⟨⟨c0 9 (by decide) (by decide) (by decide), c0 27 (by decide) (by decide) (by decide), c0 28 (by decide) (by decide) (by decide), c0 29 (by decide) (by decide) (by decide)⟩, ⟨⟨c0 10 (by decide) (by decide) (by decide), c0 7 (by decide) (by decide) (by decide), c0 8 (by decide) (by decide) (by decide), c0 30 (by decide) (by decide) (by decide), c0 31 (by decide) (by decide) (by decide)⟩, fun k hk => absurd hk (Nat.not_lt_zero _)⟩, fun u hu => absurd hu (Nat.not_lt_zero _)⟩
  obtain ⟨H1, a1, a2, a3, a4, a5, a6, a7⟩ := zc39_57 (k := zm39_69) PV (zCr6 f1) f33.1
  have e1 : ∀ k, zkq9 k → k ≠ 33 → zct H1 k = zct H0 k ∧ zln H1 k = zln H0 k ∧ zi H1 k = zi H0 k ∧ zr H1 k = zr H0 k ∧ zd H1 k = zd H0 k ∧ zl H1 k = zl H0 k := fun k a b => a5 k ⟨a, b⟩
  obtain ⟨H2, b1, b2, b3, b4, b5, b6⟩ := zc39_71 (h := H1) ((e1 2 (by unfold zkq9; decide) (by decide)).1.trans (c0 2 (by decide) (by decide) (by decide))) ((e1 20 (by unfold zkq9; decide) (by decide)).1.trans (c0 20 (by decide) (by decide) (by decide))) (by rw [(e1 12 (by unfold zkq9; decide) (by decide)).2.2.2.1]; exact zCr7 f1) (by rw [(e1 34 (by unfold zkq9; decide) (by decide)).2.1]; exact f33.2.1)
  have e2 : ∀ k, k ≠ 2 → k ≠ 20 → k ≠ 34 → zct H2 k = zct H1 k ∧ zln H2 k = zln H1 k ∧ zi H2 k = zi H1 k ∧ zr H2 k = zr H1 k ∧ zd H2 k = zd H1 k ∧ zl H2 k = zl H1 k := fun k a b d => b4 k ⟨a, b, d⟩
  have P4 : zPV 4 H2 := a2.kp fun k hk => e2 k (fun z => hk (by rw [z]; unfold zkq9; decide)) (fun z => hk (by rw [z]; unfold zkq9; decide)) (fun z => hk (by rw [z]; unfold zkq9; decide))
  have both : ∀ k, zkq9 k → k ≠ 33 → k ≠ 2 → k ≠ 20 → k ≠ 34 → zct H2 k = zct H0 k ∧ zln H2 k = zln H0 k ∧ zi H2 k = zi H0 k ∧ zr H2 k = zr H0 k := fun k a b x y z => by
    obtain ⟨p1, p2, p3, p4, -⟩ := e1 k a b
    obtain ⟨q1, q2, q3, q4, -⟩ := e2 k x y z
    exact ⟨q1.trans p1, q2.trans p2, q3.trans p3, q4.trans p4⟩
  have b12 := both 12 (by unfold zkq9; decide) (by decide) (by decide) (by decide) (by decide)
  have ls : ∀ K, (14 ≤ K ∧ K ≤ 19) → zi H2 K = zi H0 K ∧ zln H2 K = zln H0 K := fun K hK => by
    obtain ⟨p1, p2, p3, p4⟩ := both K (by unfold zkq9; omega) (by omega) (by omega) (by omega) (by omega)
    exact ⟨p3, p2⟩
  have li : ∀ K, (14 ≤ K ∧ K ≤ 19) → (zi H0 K 0 1 = 1 ∧ zln H0 K 0 = 0) → zi H2 K 0 1 = 1 ∧ (zln H2 K 0 : Int) = 0 := fun K hK hF => by
    obtain ⟨p1, p2⟩ := ls K hK
    rw [p1, p2]
    exact ⟨hF.1, by rw [hF.2]; rfl⟩
  have cz : ∀ K, zkq9 K → K ≠ 33 → K ≠ 2 → K ≠ 20 → K ≠ 34 → K ≠ 12 → ¬ (14 ≤ K ∧ K ≤ 19) → ¬ (33 ≤ K ∧ K ≤ 37) → (zct H2 K : Int) = 0 := fun K a b x y z u v w => by
    rw [(both K a b x y z).1, c0 K u v w]
    rfl
  have s12 : ∀ j, zi H2 12 0 j = 0 := fun j => by
    rw [b12.2.2.1, f2, i12, ite_self]
  have PK : zPK 12 H2 := P4.2.1
  refine ⟨H2, ?_, ⟨?_, ?_, ?_, ?_, ?_, ?_, ?_, ?_, ?_, ?_, ?_, ?_, ?_, ?_⟩, ?_, by omega, by omega⟩
  · rw [e39, zE_0, a1, zm39_69, zE_0, b1]
  · unfold zCr at f1 ⊢
    rw [b12.2.2.2]
    exact f1
  · exact ⟨(s12 11).trans zE_0, (s12 13).trans zE_0, (s12 14).trans zE_0, (s12 15).trans zE_0, (s12 16).trans zE_0, (s12 17).trans zE_0, fun _ => (s12 12).trans zE_0⟩
  · exact ⟨li 14 (by omega) f14, fun a a0 a1 => absurd (show a < 0 from a1) (by omega)⟩
  · exact ⟨li 15 (by omega) f15, fun a a0 a1 => absurd (show a < 0 from a1) (by omega)⟩
  · exact ⟨li 16 (by omega) f16, fun a a0 a1 => absurd (show a < 0 from a1) (by omega)⟩
  · exact ⟨li 17 (by omega) f17, fun a a0 a1 => absurd (show a < 0 from a1) (by omega)⟩
  · exact ⟨li 18 (by omega) f18, fun a a0 a1 => absurd (show a < 0 from a1) (by omega)⟩
  · exact ⟨li 19 (by omega) f19, fun a a0 a1 => absurd (show a < 0 from a1) (by omega)⟩
  · obtain ⟨q1, q2, q3, q4, -⟩ := e2 33 (by decide) (by decide) (by decide)
    refine ⟨by rw [q2, a4]; exact f33.1, fun v v0 v1 => ?_⟩
    obtain ⟨g1, g2, g3, g4, g5, g6, g7, g8, g9, g10, g11, g12, g13, g14⟩ := P4.2.2 v.toNat (by omega)
    refine ⟨by rw [q4]; exact a3 v.toNat (by omega), g1, g2, g3, g4, g5, g6, fun g g0 gg => ?_, fun k k0 k1 => (g8 _).trans zE_0, fun x x0 x1 => (g9 _).trans zrf_n.symm, g10.trans zE_1, fun z => absurd rfl z, g12.trans zE_m1, g13.trans zE_0, g14.trans zE_0⟩
    rw [show (3 * v + g).toNat = 3 * v.toNat + g.toNat by omega]
    exact g7 g.toNat (by omega)
  · intro k k0 k1
    obtain ⟨g1, g2, g3, g4, g5, g6, g7⟩ := (PK.2 k.toNat (by omega)).1
    exact ⟨g1.trans zrf_n.symm, g2.trans zrf_n.symm, g3.trans zE_0, g4, g6, g7⟩
  · refine ⟨by rw [b3, (e1 34 (by unfold zkq9; decide) (by decide)).2.1]; exact f33.2.1, fun f f0 ff => ?_⟩
    obtain ⟨g1, g2, g3, g4, g5, g6, g7, g8⟩ := b2 f.toNat (by omega)
    exact ⟨g1, g2, g3.trans zE_0, g4.trans zE_m1, g5.trans zE_0, g6.trans zE_0, g7, by rw [g8]; rfl, fun x x0 x1 => absurd (show x < 0 from x1) (by omega)⟩
  · obtain ⟨p1, p2, p3, p4⟩ := both 35 (by unfold zkq9; decide) (by decide) (by decide) (by decide) (by decide)
    obtain ⟨q1, q2, q3, q4⟩ := both 36 (by unfold zkq9; decide) (by decide) (by decide) (by decide) (by decide)
    obtain ⟨r1, r2, r3, r4⟩ := both 37 (by unfold zkq9; decide) (by decide) (by decide) (by decide) (by decide)
    unfold zCX
    rw [p2, p3, q2, q3, r2, r3]
    refine ⟨f33.2.2, fun g g0 gg => ⟨?_, ((f35 _).2.1).trans zE_0⟩, fun x x0 x1 => ((f35 _).2.2).trans zE_0⟩
    have e : zs0 56 (3 * g) + (2 * zs0 56 (3 * g + 1) + 4 * zs0 56 (3 * g + 2)) = 0 := rfl
    rw [e]
    exact ((f35 _).1).trans zE_0
  · exact zC0M PK
  · exact ⟨cz 0 (by unfold zkq9; decide) (by decide) (by decide) (by decide) (by decide) (by decide) (by decide) (by decide), cz 21 (by unfold zkq9; decide) (by decide) (by decide) (by decide) (by decide) (by decide) (by decide) (by decide), cz 4 (by unfold zkq9; decide) (by decide) (by decide) (by decide) (by decide) (by decide) (by decide) (by decide), cz 22 (by unfold zkq9; decide) (by decide) (by decide) (by decide) (by decide) (by decide) (by decide) (by decide), cz 23 (by unfold zkq9; decide) (by decide) (by decide) (by decide) (by decide) (by decide) (by decide) (by decide), cz 24 (by unfold zkq9; decide) (by decide) (by decide) (by decide) (by decide) (by decide) (by decide) (by decide), cz 5 (by unfold zkq9; decide) (by decide) (by decide) (by decide) (by decide) (by decide) (by decide) (by decide), cz 25 (by unfold zkq9; decide) (by decide) (by decide) (by decide) (by decide) (by decide) (by decide) (by decide), cz 26 (by unfold zkq9; decide) (by decide) (by decide) (by decide) (by decide) (by decide) (by decide) (by decide), cz 3 (by unfold zkq9; decide) (by decide) (by decide) (by decide) (by decide) (by decide) (by decide) (by decide), cz 11 (by unfold zkq9; decide) (by decide) (by decide) (by decide) (by decide) (by decide) (by decide) (by decide), cz 1 (by unfold zkq9; decide) (by decide) (by decide) (by decide) (by decide) (by decide) (by decide) (by decide), fun f x f0 ff x0 x1 => absurd (show x < 0 from x1) (by omega)⟩
  · refine zKp.tr (h1 := H0) (K0.mn fun k hk => ?_) (zKp.tr (h1 := H1) (a5.mn fun k hk => ?_) (b4.mn fun k hk => ?_))
    · have hk : ¬ zpc1 k := hk
      unfold zpc1 at hk
      show k ≠ 12 ∧ ¬ (14 ≤ k ∧ k ≤ 19) ∧ ¬ (33 ≤ k ∧ k ≤ 37)
      omega
    · have hk : ¬ zpc1 k := hk
      unfold zpc1 at hk
      show zkq9 k ∧ k ≠ 33
      unfold zkq9
      omega
    · have hk : ¬ zpc1 k := hk
      unfold zpc1 at hk
      show k ≠ 2 ∧ k ≠ 20 ∧ k ≠ 34
      omega
theorem zal_1 {α : Type} (f : Option α) : (if (1 : Int32) < 0 ∨ 100000 < (1 : Int32).toNatClampNeg then none else f) = f := if_neg (by decide)
theorem ztn_1 : (1 : Int32).toNatClampNeg = 1 := by decide
theorem zal_1b {α : Type} (f : Option α) : (if (1 : Int32) < 0 ∨ 100000 < 1 then none else f) = f := if_neg (by decide)
