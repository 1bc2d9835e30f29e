set_option maxRecDepth 16384
/-! The law's turns, one after the other; from its beginning to its end. -/
theorem zl_turn {k : Int32 → zH → zRs Int32} {L : Nat} {h : zH} {s : zS} {A R P S M N T : Int} {n : Nat} (a : zPr1 L h s A R P S M N T) : zGl (zm291_20 k n) h T (zm291_20 k (n + 1) (some (40, 0)) (some (12, 0)) (zE A) (zE R) (zE P) (zE S) (zE M) (zE (s 45 0)) (zE N) (zE T) h) := by
  have ha := a
  obtain ⟨a, hS, T0⟩ := a
  have a3 := a.2.2.1
  have a4 := a.2.2.2.1
  obtain ⟨v, ev⟩ := zl241 (k := 2 * T) hS (by omega) (by omega)
  obtain ⟨w, ew⟩ := zl241 (k := 2 * T + 1) hS (by omega) (by omega)
  obtain ⟨κ, k0, k1, ek⟩ := zl242 (h := h) v (n := 20) (by omega) (by omega)
  obtain ⟨u, u0, u1, eu⟩ := zl242 (h := h) w (n := 2) (by omega) (by omega)
  obtain ⟨g, g0, g1, eg⟩ := zl242 (h := h) (w >>> ((1 : Int32) &&& 31)) (n := 3) (by omega) (by omega)
  have ev : zm241 (some (40, 0)) ((2 : Int32) * zE T) h = some (.inl v, h) := by
    rw [show (2 : Int32) * zE T = zE (2 * T) by rw [zE_2, zE_mul]]
    exact ev
  have ew : zm241 (some (40, 0)) (((2 : Int32) * zE T) + (1 : Int32)) h = some (.inl w, h) := by
    rw [show ((2 : Int32) * zE T) + (1 : Int32) = zE (2 * T + 1) by rw [zE_2, zE_1, zE_mul, zE_add]]
    exact ew
  have ek : zm242 v (20 : Int32) h = some (.inl (zE κ), h) := by
    rw [zE_20]
    exact ek
  have eu : zm242 w (2 : Int32) h = some (.inl (zE u), h) := by
    rw [zE_2]
    exact eu
  have eg : zm242 (w >>> ((1 : Int32) &&& 31)) (3 : Int32) h = some (.inl (zE g), h) := by
    rw [zE_3]
    exact eg
  have c60 : ¬ (60 : Int32) ≤ zE T := by
    rw [zE_60, zE_le (by omega) (by omega) (by omega) (by omega)]
    omega
  have le : ∀ (x : Int32) (b c : Int), x = zE b → 0 ≤ b → b < 100 → 0 ≤ c → c < 100 → ((x ≤ zE c) = (b ≤ c)) := fun x b c e b0 b1 c0 c1 => by
    rw [e, zE_le (by omega) (by omega) (by omega) (by omega)]
  have eq : ∀ (x : Int32) (b c : Int), x = zE b → 0 ≤ b → b < 100 → 0 ≤ c → c < 100 → ((zE c = x) = (c = b)) := fun x b c e b0 b1 c0 c1 => by
    rw [e, zE_inj (by omega) (by omega) (by omega) (by omega)]
  rw [zm291_20, if_neg c60, ev, zb_s, ew, zb_s, ek, zb_s, eu, zb_s, eg, zb_s]
  by_cases c3 : 3 ≤ P
  · have P3 : P = 3 := by omega
    rw [if_pos (by rw [le _ 3 P zE_3 (by omega) (by omega) (by omega) (by omega)]; exact c3)]
    by_cases d3 : A < 3
    · rw [if_pos (by rw [zE_3, zE_lt (by omega) (by omega) (by omega) (by omega)]; exact d3)]
      exact zl_art ha P3 ⟨u0, u1⟩
    · rw [if_neg (by rw [zE_3, zE_lt (by omega) (by omega) (by omega) (by omega)]; exact d3)]
      by_cases e3 : 3 ≤ κ
      · rw [if_pos (by rw [le _ 3 κ zE_3 (by omega) (by omega) (by omega) (by omega)]; exact e3)]
        by_cases e6 : 6 ≤ κ
        · rw [if_pos (by rw [le _ 6 κ zE_6 (by omega) (by omega) (by omega) (by omega)]; exact e6)]
          by_cases e11 : 11 ≤ κ
          · rw [if_pos (by rw [le _ 11 κ zE_11 (by omega) (by omega) (by omega) (by omega)]; exact e11)]
            by_cases f11 : κ = 11
            · rw [if_pos (by rw [eq _ 11 κ zE_11 (by omega) (by omega) (by omega) (by omega)]; exact f11)]
              exact zl_stop ha
            · rw [if_neg (by rw [eq _ 11 κ zE_11 (by omega) (by omega) (by omega) (by omega)]; exact f11)]
              by_cases f12 : κ = 12
              · rw [if_pos (by rw [eq _ 12 κ zE_12 (by omega) (by omega) (by omega) (by omega)]; exact f12)]
                exact zl_sees ha ⟨u0, u1⟩
              · rw [if_neg (by rw [eq _ 12 κ zE_12 (by omega) (by omega) (by omega) (by omega)]; exact f12)]
                by_cases f13 : κ = 13
                · rw [if_pos (by rw [eq _ 13 κ zE_13 (by omega) (by omega) (by omega) (by omega)]; exact f13)]
                  exact zl_meas ha ⟨u0, u1⟩ ⟨g0, g1⟩
                · rw [if_neg (by rw [eq _ 13 κ zE_13 (by omega) (by omega) (by omega) (by omega)]; exact f13)]
                  by_cases f14 : κ = 14
                  · rw [if_pos (by rw [eq _ 14 κ zE_14 (by omega) (by omega) (by omega) (by omega)]; exact f14)]
                    exact zl_hold ha ⟨u0, u1⟩
                  · rw [if_neg (by rw [eq _ 14 κ zE_14 (by omega) (by omega) (by omega) (by omega)]; exact f14)]
                    have e15 : (15 : Int32) = zE 15 := by decide
                    by_cases f15 : κ = 15
                    · rw [if_pos (by rw [eq _ 15 κ e15 (by omega) (by omega) (by omega) (by omega)]; exact f15)]
                      exact zl_zone ha ⟨g0, g1⟩
                    · rw [if_neg (by rw [eq _ 15 κ e15 (by omega) (by omega) (by omega) (by omega)]; exact f15)]
                      by_cases f16 : κ = 16
                      · rw [if_pos (by rw [eq _ 16 κ zE_16 (by omega) (by omega) (by omega) (by omega)]; exact f16)]
                        exact zl_die ha
                      · rw [if_neg (by rw [eq _ 16 κ zE_16 (by omega) (by omega) (by omega) (by omega)]; exact f16)]
                        by_cases f17 : κ = 17
                        · rw [if_pos (by rw [eq _ 17 κ zE_17 (by omega) (by omega) (by omega) (by omega)]; exact f17)]
                          exact zl_why ha
                        · rw [if_neg (by rw [eq _ 17 κ zE_17 (by omega) (by omega) (by omega) (by omega)]; exact f17)]
                          exact zl_seer ha ⟨g0, g1⟩
          · rw [if_neg (by rw [le _ 11 κ zE_11 (by omega) (by omega) (by omega) (by omega)]; exact e11)]
            exact zl_pass ha
        · rw [if_neg (by rw [le _ 6 κ zE_6 (by omega) (by omega) (by omega) (by omega)]; exact e6)]
          exact zl_rele ha P3
      · rw [if_neg (by rw [le _ 3 κ zE_3 (by omega) (by omega) (by omega) (by omega)]; exact e3)]
        exact zl_art ha P3 ⟨u0, u1⟩
  · rw [if_neg (by rw [le _ 3 P zE_3 (by omega) (by omega) (by omega) (by omega)]; exact c3)]
    exact zl_prog ha (by omega)
theorem zl_loop {k : Int32 → zH → zRs Int32} {L : Nat} : ∀ (m n : Nat) (h : zH) (s : zS) (A R P S M N T : Int), zLi h s A R P S M N T → zScr L h → 0 ≤ T → T + m = 60 → m < n → ∃ (h' : zH) (N' : Int), 0 ≤ N' ∧ N' ≤ 20000 ∧ zFr (8 * m) h h' ∧ zm291_20 k n (some (40, 0)) (some (12, 0)) (zE A) (zE R) (zE P) (zE S) (zE M) (zE (s 45 0)) (zE N) (zE T) h = k (zE N') h'
  | 0, n, h, s, A, R, P, S, M, N, T, a, hS, T0, hT, hn => by
    obtain ⟨n', rfl⟩ : ∃ n', n = n' + 1 := ⟨n - 1, by omega⟩
    have a7 := a.2.2.2.2.2.2.1
    refine ⟨h, N, a7.1, by omega, zFr.rf, ?_⟩
    rw [zm291_20, if_pos (by rw [zE_60, zE_le (by omega) (by omega) (by omega) (by omega)]; omega)]
  | m + 1, n, h, s, A, R, P, S, M, N, T, a, hS, T0, hT, hn => by
    obtain ⟨n', rfl⟩ : ∃ n', n = n' + 1 := ⟨n - 1, by omega⟩
    obtain ⟨h1, s1, A1, R1, P1, S1, M1, N1, b1, b2, b3⟩ := zl_turn (k := k) (n := n') ⟨a, hS, T0, by omega⟩
    obtain ⟨h', N', c1, c2, c3, c4⟩ := zl_loop (k := k) m n' h1 s1 A1 R1 P1 S1 M1 N1 (T + 1) b1 (b2.scr hS) (by omega) (by omega) (by omega)
    refine ⟨h', N', c1, c2, (b2.tr c3).le (by omega), ?_⟩
    rw [b3, c4]
theorem zJ0 : zJv zs0 := by
  refine ⟨fun a b a0 a1 => ?_, fun k _ _ hk => ?_, fun r g r0 r1 => ?_⟩
  · have : zs0 2 0 = 0 := rfl
    omega
  · exact absurd rfl hk
  · have : zs0 30 0 = 0 := rfl
    omega
theorem zlawrun {L : Nat} {xs : Nat → Int32} (hL : L ≤ 260) : ∃ h', zm291 (some (40, 0)) (zh0 L xs) = some (.inl 1, h') ∧ zce h' ≤ 600000 ∧ zso h' ≤ 7200000 := by
  have zc : ∀ k, zct (zh0 L xs) k = 0 := fun k => rfl
  obtain ⟨H, a1, a2, a3, a4, a5⟩ := zc39 (h := znw (zh0 L xs) 12 0 18) (fun k hk => by rw [lkn_c, if_neg hk]; exact zc k) (fun j => by rw [lkn_i, if_pos ⟨rfl, rfl⟩])
  have p40 : ¬ zpc1 40 := by unfold zpc1; decide
  have l40 : zln H 40 0 = L := by
    rw [(a3 40 p40).2.1, lkn_l, if_neg (fun z => absurd z.1 (by decide))]
    rfl
  have i0 : zLi H zs0 0 0 0 0 0 0 0 := by
    refine ⟨⟨a2, zW0, zJ0⟩, ⟨rfl, rfl, rfl, rfl, rfl⟩, by omega, ⟨by omega, by omega, fun _ => rfl⟩, ⟨by omega, by omega, Int.le_refl _⟩, by omega, by omega, ⟨Int.le_refl _, Int.le_refl _⟩, fun p p0 p1 => by omega, fun r r0 r1 => by omega, fun v c _ _ _ _ => rfl⟩
  obtain ⟨h', N', c1, c2, c3, c4⟩ := zl_loop (k := zm291_623) 60 zN0 H zs0 0 0 0 0 0 0 0 i0 ⟨l40, hL⟩ (by omega) (by omega) (by unfold zN0; omega)
  have e45 : zs0 45 0 = 0 := rfl
  rw [e45] at c4
  have e5 : zce (znw (zh0 L xs) 12 0 18) = 1 := rfl
  have e6 : zso (znw (zh0 L xs) 12 0 18) = 18 := rfl
  obtain ⟨-, f2, f3⟩ := c3
  refine ⟨h', ?_, by omega, by omega⟩
  rw [zm291, zlet_s, zc 12, zo_12, a1, zb2_s, zlet_s, zE_0, c4, zm291_623, if_neg (by rw [zE_20000, zE_lt (by omega) (by omega) (by omega) (by omega)]; omega)]
theorem zB (L : Nat) (xs : Nat → Int32) (hL : L ≤ 260) : ∃ h', zAt 291 0 [some (zrv (some (40, 0))), none, none, none, none, none, none, none, none, none, none, none, none, none, none, none, none, none, none] [] (zh0 L xs) (.inl (some (zI 1))) h' ∧ zce h' ≤ 600000 ∧ zso h' ≤ 7200000 := by
  obtain ⟨h', h1, h2, h3⟩ := zlawrun (xs := xs) hL
  exact ⟨h', zmS291 h1, h2, h3⟩
