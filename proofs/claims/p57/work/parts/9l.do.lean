set_option maxRecDepth 16384
/-! What a step does: the pair. -/
theorem zc28 {h : zH} {s : zS} {k a : Int} (hC : zCl h s) (hK : zWk s) (hn : s 2 0 ≤ 30) (k0 : 0 ≤ k) (k1 : k < 12) (a0 : 0 ≤ a) (a1 : a < s 2 0) : zm28 (some (10, k.toNat)) (some (0, a.toNat)) h = some (.inl (zE (if a < s 12 k then 1 else 0)), h) := by
  have hq := hK k k0 k1
  have cA : zCA h s := hC.2.2.1
  have q0 := zCk0 hC.2.2.2.2.2.2.2.2.2.1 k0 k1
  rw [zm28, zo_10, q0]
  by_cases c : s 12 k = -1
  · rw [c, zrf_n, if_pos rfl, if_neg (by omega), zE_0]
  · have b0 : 0 ≤ s 12 k := by omega
    rw [if_neg (by rw [zrf_z hq.1.1]; exact c), zrf_s b0, zo_0, zo_0, zCa0 cA b0 hq.1.2, zCa0 cA a0 a1]
    by_cases d : a < s 12 k
    · rw [if_neg (by rw [zE_le (by omega) (by omega) (by omega) (by omega)]; omega), if_pos d, zE_1]
    · rw [if_pos (by rw [zE_le (by omega) (by omega) (by omega) (by omega)]; omega), if_neg d, zE_0]
noncomputable def zdoT (s : zS) (r : Int) : zS :=
  if s 27 (zit s r) = 0 ∨ s 27 (zit s r) = 4 then (if s 31 r < s 12 (3 * s 3 (s 31 r) + s 28 (zit s r)) then zlsT s r else if s 12 (3 * s 3 (s 31 r) + s 28 (zit s r)) = s 31 r then s else ztkT s r (s 28 (zit s r)) (s 3 (s 31 r)) (s 31 r) (zsh s r))
  else if s 27 (zit s r) = 2 then (if zvd s (3 * s 3 (s 31 r) + s 28 (zit s r)) = 2 then zbkT s r else s) else s
def zdoR (s : zS) (r : Int) : Prop := ∃ (t : zS) (b : Int), t = zdoT s r ∧ zfin s (s 3 (s 31 r)) t ∧ zbo b (1 < t 33 r) ∧ (b = 0 → t 33 r = 0) ∧ (∀ h, zCl h s → ∃ h', zm78 (some (12, 0)) (some (5, r.toNat)) h = some (.inl (), h') ∧ zClM h' s t ∧ zfrC h h')
theorem zdo_p {s : zS} {r : Int} (hW : zWf s) (r0 : 0 ≤ r) (r1 : r < s 30 0) (h33 : s 33 r = 0) : zdoR s r := by
  obtain ⟨a, ha⟩ : ∃ a, s 31 r = a := ⟨_, rfl⟩
  obtain ⟨v, hv⟩ : ∃ v, s 3 a = v := ⟨_, rfl⟩
  obtain ⟨κ, hκ⟩ : ∃ κ, s 27 (zit s r) = κ := ⟨_, rfl⟩
  obtain ⟨g, hg⟩ : ∃ g, s 28 (zit s r) = g := ⟨_, rfl⟩
  have z1 : ¬ zE 1 = zE 0 := by decide
  have h20 := hW.2.2.2.2.2.1.1
  have h26 := hW.2.2.2.2.1.1
  have hn := hW.1.1
  have a0 := (hW.2.2.2.2.2.1.2.2 r r0 r1).1
  rw [ha] at a0
  have v0 := (hW.1.2 _ a0.1 a0.2).1
  rw [hv] at v0
  obtain ⟨q1, q2, q3, q4, q5, q6, q7, q8, q9, q10⟩ := zit_r hW.2.2.2.2.1 hW.2.2.2.2.2.1 r0 r1 (by omega)
  rw [hκ] at q6 q7 q8 q9 q10
  rw [hg] at q7 q8 q9
  have wP28 := hW.2.2.2.2.1.2.2.1
  have kE : ∀ n : Int, 0 ≤ n → n ≤ 6 → (zE κ = zE n) = (κ = n) := fun n n0 n1 => zE_inj (by omega) (by omega) (by omega) (by omega)
  -- how each side comes to the step
  have C0 : ∀ h, zCl h s → zm78 (some (12, 0)) (some (5, r.toNat)) h = if (zE κ).toInt < 0 ∨ 4 < (zE κ).toInt then some (.inl (), h) else if zE κ = (0 : Int32) then zra (zr h 9 v.toNat 0) (zE g) h fun v120 => zob 9 v120 fun p122 i123 => zb (zm28 v120 (zr h 5 r.toNat 0) h) fun x127 h126 => if x127 = 0 then zra (zr h 9 v.toNat 0) (zE g) h126 fun v136 => zob 9 v136 fun p138 i139 => if (zr h126 p138 i139 0) = (zr h126 5 r.toNat 0) then some (.inl (), h126) else zb (zm14 (some (5, r.toNat)) h126) fun x144 h143 => zb (zm79 (some (12, 0)) (some (5, r.toNat)) (zE g) x144 h143) fun _ h145 => some (.inl (), h145) else zb (zm58 (some (12, 0)) (zr h126 5 r.toNat 0) h126) fun _ h147 => zb (zm59 (some (12, 0)) (some (5, r.toNat)) (4 : Int32) h147) fun _ h148 => some (.inl (), h148)
      else if zE κ = (1 : Int32) then some (.inl (), h)
      else if zE κ = (2 : Int32) then zra (zr h 9 v.toNat 0) (zE g) h fun v100 => zob 9 v100 fun p102 i103 => zb (zm34 v100 h) fun x107 h106 => if x107 = (2 : Int32) then zb (zm56 (some (12, 0)) (some (5, r.toNat)) h106) fun x110 h109 => some (.inl (), h109) else some (.inl (), h106)
      else if zE κ = (3 : Int32) then some (.inl (), h)
      else if zE κ = (4 : Int32) then zra (zr h 9 v.toNat 0) (zE g) h fun v120 => zob 9 v120 fun p122 i123 => zb (zm28 v120 (zr h 5 r.toNat 0) h) fun x127 h126 => if x127 = 0 then zra (zr h 9 v.toNat 0) (zE g) h126 fun v136 => zob 9 v136 fun p138 i139 => if (zr h126 p138 i139 0) = (zr h126 5 r.toNat 0) then some (.inl (), h126) else zb (zm14 (some (5, r.toNat)) h126) fun x144 h143 => zb (zm79 (some (12, 0)) (some (5, r.toNat)) (zE g) x144 h143) fun _ h145 => some (.inl (), h145) else zb (zm58 (some (12, 0)) (zr h126 5 r.toNat 0) h126) fun _ h147 => zb (zm59 (some (12, 0)) (some (5, r.toNat)) (4 : Int32) h147) fun _ h148 => some (.inl (), h148)
      else none := fun h hC => by
    have cr : zCr h := hC.1
    have cA : zCA h s := hC.2.2.1
    have cP : zCP h s := hC.2.2.2.1
    have cR : zCR h s := hC.2.2.2.2.1
    have cV : zCV h s := hC.2.2.2.2.2.2.2.2.1
    have eA := zCrA cR r0 r1
    rw [ha] at eA
    have eV := zCa1 cA a0.1 a0.2
    rw [hv] at eV
    have k12 := zc12 cP cR hW.2.2.2.2.1 hW.2.2.2.2.2.1 r0 r1 (by omega)
    have k13 := zc13 cP cR hW.2.2.2.2.1 hW.2.2.2.2.2.1 r0 r1 (by omega)
    rw [hκ] at k12
    rw [hg] at k13
    rw [zm78, zo_12, zo_5, eA, zo_0, eV, zLVa cr cV v0.1 v0.2, zo_9, zlet_s, k13, zb_s, k12, zb_s, eA]
  have eT : zdoT s r = if κ = 0 ∨ κ = 4 then (if a < s 12 (3 * v + g) then zlsT s r else if s 12 (3 * v + g) = a then s else ztkT s r g v a (zsh s r)) else if κ = 2 then (if zvd s (3 * v + g) = 2 then zbkT s r else s) else s := by
    unfold zdoT
    rw [hκ, hg, ha, hv]
  have tI : (zE κ).toInt = κ := zE_to (by omega) (by omega)
  have nop : (κ ≠ 0 ∧ κ ≠ 2 ∧ κ ≠ 4) → zdoR s r := fun hk => by
    refine ⟨s, 0, by rw [eT, if_neg (by omega), if_neg (by omega)], zfin_0 hW, zbo_0 (by omega), fun _ => h33, fun h hC => ⟨h, ?_, zClM_0 hC rfl rfl rfl, zfrC.rf⟩⟩
    · rw [C0 h hC, tI]
      by_cases c : κ < 0 ∨ 4 < κ
      · rw [if_pos c]
      · rw [if_neg c, zE_0, zE_1, zE_2, zE_3, zE_4, if_neg (by rw [kE 0 (by omega) (by omega)]; omega)]
        by_cases d : κ = 1
        · rw [if_pos (by rw [d])]
        · rw [if_neg (by rw [kE 1 (by omega) (by omega)]; omega), if_neg (by rw [kE 2 (by omega) (by omega)]; omega), if_pos (by rw [show κ = 3 by omega])]
  have put : (κ = 0 ∨ κ = 4) → zdoR s r := fun hk => by
    have g0 : 0 ≤ g := (q7 (by omega)).1
    have g1 : g < 3 := by have := q9 (by omega) (by omega) (by omega); omega
    have k0 : 0 ≤ 3 * v + g := by omega
    have k1 : 3 * v + g < 12 := by omega
    have hq := hW.2.1 (3 * v + g) k0 k1
    have hs0 : 0 ≤ zsh s r ∧ zsh s r ≤ 100 := by
      unfold zsh
      rw [hκ]
      by_cases c : κ = 0
      · rw [if_pos c]; have := q10 c; omega
      · rw [if_neg c]; omega
    have C3 : ∀ h, zCl h s → zm78 (some (12, 0)) (some (5, r.toNat)) h = if zE (if a < s 12 (3 * v + g) then 1 else 0) = 0 then (if zrf 0 (s 12 (3 * v + g)) = some (0, a.toNat) then some (.inl (), h) else zb (zm79 (some (12, 0)) (some (5, r.toNat)) (zE g) (zE (zsh s r)) h) fun _ h145 => some (.inl (), h145)) else zb (zm58 (some (12, 0)) (some (0, a.toNat)) h) fun _ h147 => zb (zm59 (some (12, 0)) (some (5, r.toNat)) (zE 4) h147) fun _ h148 => some (.inl (), h148) := fun h hC => by
      have cP : zCP h s := hC.2.2.2.1
      have cR : zCR h s := hC.2.2.2.2.1
      have cV : zCV h s := hC.2.2.2.2.2.2.2.2.1
      have eA := zCrA cR r0 r1
      rw [ha] at eA
      have k14 := zc14 cP cR hW.2.2.2.2.1 hW.2.2.2.2.2.1 r0 r1 (by omega)
      have e28 := zc28 hC hW.2.1 hn.2 k0 k1 a0.1 a0.2
      have q0 := zCk0 hC.2.2.2.2.2.2.2.2.2.1 k0 k1
      rw [C0 h hC, tI, if_neg (by omega)]
      rcases hk with hk | hk
      · rw [hk, zE_0, if_pos rfl, zLKa cV v0.1 v0.2 g0 g1, zo_10, eA, e28, zb_s, zLKa cV v0.1 v0.2 g0 g1, zo_10, q0, k14, zb_s, eA, zE_4]
      · rw [hk, zE_0, zE_1, zE_2, zE_3, zE_4, if_neg (by decide), if_neg (by decide), if_neg (by decide), if_neg (by decide), if_pos rfl, zLKa cV v0.1 v0.2 g0 g1, zo_10, eA, e28, zb_s, zLKa cV v0.1 v0.2 g0 g1, zo_10, q0, k14, zb_s, eA]
    have eq : zrf 0 (s 12 (3 * v + g)) = some (0, a.toNat) ↔ s 12 (3 * v + g) = a := by
      rw [← zrf_s (k := 0) a0.1, zrf_i hq.1.1 (by omega)]
    by_cases c : a < s 12 (3 * v + g)
    · obtain ⟨t, t0, t1, t2, t3⟩ := zls_p hW r0 r1
      refine ⟨t, 1, by rw [eT, if_pos hk, if_pos c]; exact t0, t1, zbo_1 t2, fun z => by omega, fun h hC => ?_⟩
      · obtain ⟨h1, h', b1, b2, b3, b4⟩ := t3 h (zClM_0 hC rfl rfl rfl)
        rw [ha] at b1
        refine ⟨h', ?_, b3, b4⟩
        rw [C3 h hC, if_pos c, zE_0, if_neg z1, b1, zb_s, b2, zb_s]
    · by_cases d : s 12 (3 * v + g) = a
      · refine ⟨s, 0, by rw [eT, if_pos hk, if_neg c, if_pos d], zfin_0 hW, zbo_0 (by omega), fun _ => h33, fun h hC => ⟨h, ?_, zClM_0 hC rfl rfl rfl, zfrC.rf⟩⟩
        · rw [C3 h hC, if_neg c, zE_0, if_pos rfl, if_pos (eq.mpr d)]
      · obtain ⟨t, t0, t1, t2, t3⟩ := ztk_p hW r0 r1 g0 g1 hs0 ha hv (by omega)
        rw [← hv, ← ha] at t1
        refine ⟨t, 0, by rw [eT, if_pos hk, if_neg c, if_neg d]; exact t0, t1, zbo_0 (by omega), fun _ => t2.trans h33, fun h hC => ?_⟩
        · obtain ⟨h', b1, b2, b3⟩ := t3 h (zClM_0 hC rfl rfl rfl)
          refine ⟨h', ?_, b2, b3⟩
          rw [C3 h hC, if_neg c, zE_0, if_pos rfl, if_neg (fun z => d (eq.mp z)), b1, zb_s]
  have see : κ = 2 → zdoR s r := fun hk => by
    have g0 : 0 ≤ g := (q7 (by omega)).1
    have g1 : g < 3 := by have := q9 (by omega) (by omega) (by omega); omega
    have k0 : 0 ≤ 3 * v + g := by omega
    have k1 : 3 * v + g < 12 := by omega
    have hz := zvd_r s (3 * v + g)
    have wM := hW.2.2.2.2.2.2.2.2.2.2.1
    have C3 : ∀ h, zCl h s → zm78 (some (12, 0)) (some (5, r.toNat)) h = if zE (zvd s (3 * v + g)) = zE 2 then zb (zm56 (some (12, 0)) (some (5, r.toNat)) h) fun x110 h109 => some (.inl (), h109) else some (.inl (), h) := fun h hC => by
      have cV : zCV h s := hC.2.2.2.2.2.2.2.2.1
      have e34 := zc34 hC.2.2.2.2.2.2.2.2.2.1 hC.2.2.2.2.2.2.2.2.2.2.2.2.1 wM k0 k1
      rw [C0 h hC, tI, if_neg (by omega), hk, zE_0, zE_1, zE_2, if_neg (by decide), if_neg (by decide), if_pos rfl, zLKa cV v0.1 v0.2 g0 g1, zo_10, e34, zb_s]
    by_cases c : zvd s (3 * v + g) = 2
    · obtain ⟨t, n, t0, t1, t2, t3⟩ := zbk_p hW r0 r1
      refine ⟨t, 1, by rw [eT, if_neg (by omega), if_pos hk, if_pos c]; exact t0, t1, zbo_1 t2, fun z => by omega, fun h hC => ?_⟩
      · obtain ⟨h', b1, b2, b3⟩ := t3 h (zClM_0 hC rfl rfl rfl)
        refine ⟨h', ?_, b2, b3⟩
        rw [C3 h hC, if_pos (by rw [c]), b1, zb_s]
    · have nz : ¬ zE (zvd s (3 * v + g)) = zE 2 := by rw [zE_inj (by omega) (by omega) (by omega) (by omega)]; exact c
      refine ⟨s, 0, by rw [eT, if_neg (by omega), if_pos hk, if_neg c], zfin_0 hW, zbo_0 (by omega), fun _ => h33, fun h hC => ⟨h, ?_, zClM_0 hC rfl rfl rfl, zfrC.rf⟩⟩
      · rw [C3 h hC, if_neg nz]
  by_cases c0 : κ = 0
  · exact put (Or.inl c0)
  · by_cases c4 : κ = 4
    · exact put (Or.inr c4)
    · by_cases c2 : κ = 2
      · exact see c2
      · exact nop ⟨c0, c2, c4⟩

