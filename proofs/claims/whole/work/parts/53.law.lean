set_option maxRecDepth 16384
/-! The law's loop (printed by wip/whole/gen/law.py). -/
def zSc (L : Nat) (xs : Nat → Int32) (h : zH) : Prop := zln h 38 0 = 1 ∧ zln h 39 0 = 1 ∧ zln h 40 0 = L ∧ ∀ x, x < L → zi h 40 0 x = xs x
def zInv (L : Nat) (xs : Nat → Int32) (h : zH) (s : zS) : Prop := zCl h s ∧ zMd h s ∧ zWf s ∧ zSc L xs h
theorem zSc.kp {L : Nat} {xs : Nat → Int32} {h h' : zH} (hS : zSc L xs h) (e : ∀ k, k = 38 ∨ k = 39 ∨ k = 40 → zln h' k = zln h k ∧ zi h' k = zi h k) : zSc L xs h' := by
  obtain ⟨a, b, c, d⟩ := hS
  refine ⟨?_, ?_, ?_, fun x hx => ?_⟩
  · rw [(e 38 (by decide)).1]; exact a
  · rw [(e 39 (by decide)).1]; exact b
  · rw [(e 40 (by decide)).1]; exact c
  · rw [(e 40 (by decide)).2]; exact d x hx
abbrev zLk : Type := zq → zq → zq → zq → zq → Int32 → zH → zRs Int32
/-- a call of the law's: both sides are told the same, and go on from what they have become -/
def zCase (c : zLk → zLk) : Prop := ∀ (L : Nat) (xs : Nat → Int32) (h : zH) (s : zS) (i : Int) (k : zLk), L ≤ 5120 → zInv L xs h s → 0 ≤ i → i + 10 ≤ L →
  ∃ h' s', zInv L xs h' s' ∧ zce h' ≤ zce h + 40 ∧ zso h' ≤ zso h + 5000 ∧ c k (some (40, 0)) (some (12, 0)) (some (13, 0)) (some (38, 0)) (some (39, 0)) (zE i) h = k (some (40, 0)) (some (12, 0)) (some (13, 0)) (some (38, 0)) (some (39, 0)) (zE (i + 10)) h'
theorem zLaw1 (hc0 : zCase fun k => zm291_28 k) (hc1 : zCase fun k => zm291_159 k) (hc2 : zCase fun k => zm291_204 k) (hc3 : zCase fun k => zm291_242 k) (hc4 : zCase fun k => zm291_277 k) (hc5 : zCase fun k => zm291_284 k) (hc6 : zCase fun k => zm291_309 k) (hc7 : zCase fun k => zm291_374 k) (hc8 : zCase fun k => zm291_419 k) (hc9 : zCase fun k => zm291_464 k) (hc10 : zCase fun k => zm291_499 k) (hc11 : zCase fun k => zm291_534 k) (hc12 : zCase fun k => zm291_569 k) (hc13 : zCase fun k => zm291_604 k) (hc14 : zCase fun k => zm291_639 k) (hc15 : zCase fun k => zm291_669 k) (hc16 : zCase fun k => zm291_694 k) (hc17 : zCase fun k => zm291_701 k) (hc18 : zCase fun k => zm291_708 k) (hc19 : zCase fun k => zm291_753 k) (hc20 : zCase fun k => zm291_798 k) (hc21 : zCase fun k => zm291_843 k) (hc22 : zCase fun k => zm291_888 k) (hc23 : zCase fun k => zm291_933 k) (hc24 : zCase fun k => zm291_978 k) (hc25 : zCase fun k => zm291_1023 k) (hc26 : zCase fun k => zm291_1068 k) (hc27 : zCase fun k => zm291_1100 k) (hc28 : zCase fun k => zm291_1142 k) (hc29 : zCase fun k => zm291_1177 k) (hc30 : zCase fun k => zm291_1209 k) (hc31 : zCase fun k => zm291_1254 k) (hc32 : zCase fun k => zm291_1345 k) (hc33 : zCase fun k => zm291_1401 k) (hc34 : zCase fun k => zm291_1446 k) (hc35 : zCase fun k => zm291_1491 k) (hc36 : zCase fun k => zm291_1566 k) (hc37 : zCase fun k => zm291_1604 k) (hc38 : zCase fun k => zm291_1669 k) (hc39 : zCase fun k => zm291_1714 k) (hc40 : zCase fun k => zm291_1762 k) (hc41 : zCase fun k => zm291_1807 k) (hc42 : zCase fun k => zm291_1842 k) (hc43 : zCase fun k => zm291_1877 k) (hc44 : zCase fun k => zm291_1922 k) (hc45 : zCase fun k => zm291_1957 k) (hc46 : zCase fun k => zm291_1999 k) (hc47 : zCase fun k => zm291_2082 k) (hc48 : zCase fun k => zm291_2120 k) (hc49 : zCase fun k => zm291_2152 k) (hc50 : zCase fun k => zm291_2200 k) (hc51 : zCase fun k => zm291_2207 k) (hc52 : zCase fun k => zm291_2282 k) (hc53 : zCase fun k => zm291_2304 k) : zCase fun k x0 x1 x2 x3 x4 x5 h => zri x0 x5 h fun v33 =>
    if (v33 &&& (63 : Int32)).toInt < 0 ∨ 53 < (v33 &&& (63 : Int32)).toInt then
      zm291_2349 k x0 x1 x2 x3 x4 x5 h
    else if (v33 &&& (63 : Int32)) = (0 : Int32) then zm291_28 k x0 x1 x2 x3 x4 x5 h else if (v33 &&& (63 : Int32)) = (1 : Int32) then zm291_159 k x0 x1 x2 x3 x4 x5 h else if (v33 &&& (63 : Int32)) = (2 : Int32) then zm291_204 k x0 x1 x2 x3 x4 x5 h else if (v33 &&& (63 : Int32)) = (3 : Int32) then zm291_242 k x0 x1 x2 x3 x4 x5 h else if (v33 &&& (63 : Int32)) = (4 : Int32) then zm291_277 k x0 x1 x2 x3 x4 x5 h else if (v33 &&& (63 : Int32)) = (5 : Int32) then zm291_284 k x0 x1 x2 x3 x4 x5 h else if (v33 &&& (63 : Int32)) = (6 : Int32) then zm291_309 k x0 x1 x2 x3 x4 x5 h else if (v33 &&& (63 : Int32)) = (7 : Int32) then zm291_374 k x0 x1 x2 x3 x4 x5 h else if (v33 &&& (63 : Int32)) = (8 : Int32) then zm291_419 k x0 x1 x2 x3 x4 x5 h else if (v33 &&& (63 : Int32)) = (9 : Int32) then zm291_464 k x0 x1 x2 x3 x4 x5 h else if (v33 &&& (63 : Int32)) = (10 : Int32) then zm291_499 k x0 x1 x2 x3 x4 x5 h else if (v33 &&& (63 : Int32)) = (11 : Int32) then zm291_534 k x0 x1 x2 x3 x4 x5 h else if (v33 &&& (63 : Int32)) = (12 : Int32) then zm291_569 k x0 x1 x2 x3 x4 x5 h else if (v33 &&& (63 : Int32)) = (13 : Int32) then zm291_604 k x0 x1 x2 x3 x4 x5 h else if (v33 &&& (63 : Int32)) = (14 : Int32) then zm291_639 k x0 x1 x2 x3 x4 x5 h else if (v33 &&& (63 : Int32)) = (15 : Int32) then zm291_669 k x0 x1 x2 x3 x4 x5 h else if (v33 &&& (63 : Int32)) = (16 : Int32) then zm291_694 k x0 x1 x2 x3 x4 x5 h else if (v33 &&& (63 : Int32)) = (17 : Int32) then zm291_701 k x0 x1 x2 x3 x4 x5 h else if (v33 &&& (63 : Int32)) = (18 : Int32) then zm291_708 k x0 x1 x2 x3 x4 x5 h else if (v33 &&& (63 : Int32)) = (19 : Int32) then zm291_753 k x0 x1 x2 x3 x4 x5 h else if (v33 &&& (63 : Int32)) = (20 : Int32) then zm291_798 k x0 x1 x2 x3 x4 x5 h else if (v33 &&& (63 : Int32)) = (21 : Int32) then zm291_843 k x0 x1 x2 x3 x4 x5 h else if (v33 &&& (63 : Int32)) = (22 : Int32) then zm291_888 k x0 x1 x2 x3 x4 x5 h else if (v33 &&& (63 : Int32)) = (23 : Int32) then zm291_933 k x0 x1 x2 x3 x4 x5 h else if (v33 &&& (63 : Int32)) = (24 : Int32) then zm291_978 k x0 x1 x2 x3 x4 x5 h else if (v33 &&& (63 : Int32)) = (25 : Int32) then zm291_1023 k x0 x1 x2 x3 x4 x5 h else if (v33 &&& (63 : Int32)) = (26 : Int32) then zm291_1068 k x0 x1 x2 x3 x4 x5 h else if (v33 &&& (63 : Int32)) = (27 : Int32) then zm291_1100 k x0 x1 x2 x3 x4 x5 h else if (v33 &&& (63 : Int32)) = (28 : Int32) then zm291_1142 k x0 x1 x2 x3 x4 x5 h else if (v33 &&& (63 : Int32)) = (29 : Int32) then zm291_1177 k x0 x1 x2 x3 x4 x5 h else if (v33 &&& (63 : Int32)) = (30 : Int32) then zm291_1209 k x0 x1 x2 x3 x4 x5 h else if (v33 &&& (63 : Int32)) = (31 : Int32) then zm291_1254 k x0 x1 x2 x3 x4 x5 h else if (v33 &&& (63 : Int32)) = (32 : Int32) then zm291_1345 k x0 x1 x2 x3 x4 x5 h else if (v33 &&& (63 : Int32)) = (33 : Int32) then zm291_1401 k x0 x1 x2 x3 x4 x5 h else if (v33 &&& (63 : Int32)) = (34 : Int32) then zm291_1446 k x0 x1 x2 x3 x4 x5 h else if (v33 &&& (63 : Int32)) = (35 : Int32) then zm291_1491 k x0 x1 x2 x3 x4 x5 h else if (v33 &&& (63 : Int32)) = (36 : Int32) then zm291_1566 k x0 x1 x2 x3 x4 x5 h else if (v33 &&& (63 : Int32)) = (37 : Int32) then zm291_1604 k x0 x1 x2 x3 x4 x5 h else if (v33 &&& (63 : Int32)) = (38 : Int32) then zm291_1669 k x0 x1 x2 x3 x4 x5 h else if (v33 &&& (63 : Int32)) = (39 : Int32) then zm291_1714 k x0 x1 x2 x3 x4 x5 h else if (v33 &&& (63 : Int32)) = (40 : Int32) then zm291_1762 k x0 x1 x2 x3 x4 x5 h else if (v33 &&& (63 : Int32)) = (41 : Int32) then zm291_1807 k x0 x1 x2 x3 x4 x5 h else if (v33 &&& (63 : Int32)) = (42 : Int32) then zm291_1842 k x0 x1 x2 x3 x4 x5 h else if (v33 &&& (63 : Int32)) = (43 : Int32) then zm291_1877 k x0 x1 x2 x3 x4 x5 h else if (v33 &&& (63 : Int32)) = (44 : Int32) then zm291_1922 k x0 x1 x2 x3 x4 x5 h else if (v33 &&& (63 : Int32)) = (45 : Int32) then zm291_1957 k x0 x1 x2 x3 x4 x5 h else if (v33 &&& (63 : Int32)) = (46 : Int32) then zm291_1999 k x0 x1 x2 x3 x4 x5 h else if (v33 &&& (63 : Int32)) = (47 : Int32) then zm291_2082 k x0 x1 x2 x3 x4 x5 h else if (v33 &&& (63 : Int32)) = (48 : Int32) then zm291_2120 k x0 x1 x2 x3 x4 x5 h else if (v33 &&& (63 : Int32)) = (49 : Int32) then zm291_2152 k x0 x1 x2 x3 x4 x5 h else if (v33 &&& (63 : Int32)) = (50 : Int32) then zm291_2200 k x0 x1 x2 x3 x4 x5 h else if (v33 &&& (63 : Int32)) = (51 : Int32) then zm291_2207 k x0 x1 x2 x3 x4 x5 h else if (v33 &&& (63 : Int32)) = (52 : Int32) then zm291_2282 k x0 x1 x2 x3 x4 x5 h else if (v33 &&& (63 : Int32)) = (53 : Int32) then zm291_2304 k x0 x1 x2 x3 x4 x5 h else none := by
  intro L xs h s i k hL hI h0 h1
  have hsc := hI.2.2.2
  have e1 : ∀ f : Int32 → zRs Int32, zri (some (40, 0)) (zE i) h f = f (xs i.toNat) := fun f => zri_s rfl rfl hsc.2.2.1 h0 (by omega) (by omega) (hsc.2.2.2 i.toNat (by omega))
  show ∃ h' s', zInv L xs h' s' ∧ zce h' ≤ zce h + 40 ∧ zso h' ≤ zso h + 5000 ∧ zri (some (40, 0)) (zE i) h _ = _
  rw [e1]
  generalize xs i.toNat &&& (63 : Int32) = v
  by_cases c : v.toInt < 0 ∨ 53 < v.toInt
  · refine ⟨h, s, hI, by omega, by omega, ?_⟩
    rw [if_pos c, zm291_2349, zlet_s, zE_10, zE_add]
  · rw [if_neg c]
    by_cases e100 : v = (0 : Int32)
    · rw [if_pos e100]
      exact hc0 L xs h s i k hL hI h0 h1
    rw [if_neg e100]
    by_cases e101 : v = (1 : Int32)
    · rw [if_pos e101]
      exact hc1 L xs h s i k hL hI h0 h1
    rw [if_neg e101]
    by_cases e102 : v = (2 : Int32)
    · rw [if_pos e102]
      exact hc2 L xs h s i k hL hI h0 h1
    rw [if_neg e102]
    by_cases e103 : v = (3 : Int32)
    · rw [if_pos e103]
      exact hc3 L xs h s i k hL hI h0 h1
    rw [if_neg e103]
    by_cases e104 : v = (4 : Int32)
    · rw [if_pos e104]
      exact hc4 L xs h s i k hL hI h0 h1
    rw [if_neg e104]
    by_cases e105 : v = (5 : Int32)
    · rw [if_pos e105]
      exact hc5 L xs h s i k hL hI h0 h1
    rw [if_neg e105]
    by_cases e106 : v = (6 : Int32)
    · rw [if_pos e106]
      exact hc6 L xs h s i k hL hI h0 h1
    rw [if_neg e106]
    by_cases e107 : v = (7 : Int32)
    · rw [if_pos e107]
      exact hc7 L xs h s i k hL hI h0 h1
    rw [if_neg e107]
    by_cases e108 : v = (8 : Int32)
    · rw [if_pos e108]
      exact hc8 L xs h s i k hL hI h0 h1
    rw [if_neg e108]
    by_cases e109 : v = (9 : Int32)
    · rw [if_pos e109]
      exact hc9 L xs h s i k hL hI h0 h1
    rw [if_neg e109]
    by_cases e110 : v = (10 : Int32)
    · rw [if_pos e110]
      exact hc10 L xs h s i k hL hI h0 h1
    rw [if_neg e110]
    by_cases e111 : v = (11 : Int32)
    · rw [if_pos e111]
      exact hc11 L xs h s i k hL hI h0 h1
    rw [if_neg e111]
    by_cases e112 : v = (12 : Int32)
    · rw [if_pos e112]
      exact hc12 L xs h s i k hL hI h0 h1
    rw [if_neg e112]
    by_cases e113 : v = (13 : Int32)
    · rw [if_pos e113]
      exact hc13 L xs h s i k hL hI h0 h1
    rw [if_neg e113]
    by_cases e114 : v = (14 : Int32)
    · rw [if_pos e114]
      exact hc14 L xs h s i k hL hI h0 h1
    rw [if_neg e114]
    by_cases e115 : v = (15 : Int32)
    · rw [if_pos e115]
      exact hc15 L xs h s i k hL hI h0 h1
    rw [if_neg e115]
    by_cases e116 : v = (16 : Int32)
    · rw [if_pos e116]
      exact hc16 L xs h s i k hL hI h0 h1
    rw [if_neg e116]
    by_cases e117 : v = (17 : Int32)
    · rw [if_pos e117]
      exact hc17 L xs h s i k hL hI h0 h1
    rw [if_neg e117]
    by_cases e118 : v = (18 : Int32)
    · rw [if_pos e118]
      exact hc18 L xs h s i k hL hI h0 h1
    rw [if_neg e118]
    by_cases e119 : v = (19 : Int32)
    · rw [if_pos e119]
      exact hc19 L xs h s i k hL hI h0 h1
    rw [if_neg e119]
    by_cases e120 : v = (20 : Int32)
    · rw [if_pos e120]
      exact hc20 L xs h s i k hL hI h0 h1
    rw [if_neg e120]
    by_cases e121 : v = (21 : Int32)
    · rw [if_pos e121]
      exact hc21 L xs h s i k hL hI h0 h1
    rw [if_neg e121]
    by_cases e122 : v = (22 : Int32)
    · rw [if_pos e122]
      exact hc22 L xs h s i k hL hI h0 h1
    rw [if_neg e122]
    by_cases e123 : v = (23 : Int32)
    · rw [if_pos e123]
      exact hc23 L xs h s i k hL hI h0 h1
    rw [if_neg e123]
    by_cases e124 : v = (24 : Int32)
    · rw [if_pos e124]
      exact hc24 L xs h s i k hL hI h0 h1
    rw [if_neg e124]
    by_cases e125 : v = (25 : Int32)
    · rw [if_pos e125]
      exact hc25 L xs h s i k hL hI h0 h1
    rw [if_neg e125]
    by_cases e126 : v = (26 : Int32)
    · rw [if_pos e126]
      exact hc26 L xs h s i k hL hI h0 h1
    rw [if_neg e126]
    by_cases e127 : v = (27 : Int32)
    · rw [if_pos e127]
      exact hc27 L xs h s i k hL hI h0 h1
    rw [if_neg e127]
    by_cases e128 : v = (28 : Int32)
    · rw [if_pos e128]
      exact hc28 L xs h s i k hL hI h0 h1
    rw [if_neg e128]
    by_cases e129 : v = (29 : Int32)
    · rw [if_pos e129]
      exact hc29 L xs h s i k hL hI h0 h1
    rw [if_neg e129]
    by_cases e130 : v = (30 : Int32)
    · rw [if_pos e130]
      exact hc30 L xs h s i k hL hI h0 h1
    rw [if_neg e130]
    by_cases e131 : v = (31 : Int32)
    · rw [if_pos e131]
      exact hc31 L xs h s i k hL hI h0 h1
    rw [if_neg e131]
    by_cases e132 : v = (32 : Int32)
    · rw [if_pos e132]
      exact hc32 L xs h s i k hL hI h0 h1
    rw [if_neg e132]
    by_cases e133 : v = (33 : Int32)
    · rw [if_pos e133]
      exact hc33 L xs h s i k hL hI h0 h1
    rw [if_neg e133]
    by_cases e134 : v = (34 : Int32)
    · rw [if_pos e134]
      exact hc34 L xs h s i k hL hI h0 h1
    rw [if_neg e134]
    by_cases e135 : v = (35 : Int32)
    · rw [if_pos e135]
      exact hc35 L xs h s i k hL hI h0 h1
    rw [if_neg e135]
    by_cases e136 : v = (36 : Int32)
    · rw [if_pos e136]
      exact hc36 L xs h s i k hL hI h0 h1
    rw [if_neg e136]
    by_cases e137 : v = (37 : Int32)
    · rw [if_pos e137]
      exact hc37 L xs h s i k hL hI h0 h1
    rw [if_neg e137]
    by_cases e138 : v = (38 : Int32)
    · rw [if_pos e138]
      exact hc38 L xs h s i k hL hI h0 h1
    rw [if_neg e138]
    by_cases e139 : v = (39 : Int32)
    · rw [if_pos e139]
      exact hc39 L xs h s i k hL hI h0 h1
    rw [if_neg e139]
    by_cases e140 : v = (40 : Int32)
    · rw [if_pos e140]
      exact hc40 L xs h s i k hL hI h0 h1
    rw [if_neg e140]
    by_cases e141 : v = (41 : Int32)
    · rw [if_pos e141]
      exact hc41 L xs h s i k hL hI h0 h1
    rw [if_neg e141]
    by_cases e142 : v = (42 : Int32)
    · rw [if_pos e142]
      exact hc42 L xs h s i k hL hI h0 h1
    rw [if_neg e142]
    by_cases e143 : v = (43 : Int32)
    · rw [if_pos e143]
      exact hc43 L xs h s i k hL hI h0 h1
    rw [if_neg e143]
    by_cases e144 : v = (44 : Int32)
    · rw [if_pos e144]
      exact hc44 L xs h s i k hL hI h0 h1
    rw [if_neg e144]
    by_cases e145 : v = (45 : Int32)
    · rw [if_pos e145]
      exact hc45 L xs h s i k hL hI h0 h1
    rw [if_neg e145]
    by_cases e146 : v = (46 : Int32)
    · rw [if_pos e146]
      exact hc46 L xs h s i k hL hI h0 h1
    rw [if_neg e146]
    by_cases e147 : v = (47 : Int32)
    · rw [if_pos e147]
      exact hc47 L xs h s i k hL hI h0 h1
    rw [if_neg e147]
    by_cases e148 : v = (48 : Int32)
    · rw [if_pos e148]
      exact hc48 L xs h s i k hL hI h0 h1
    rw [if_neg e148]
    by_cases e149 : v = (49 : Int32)
    · rw [if_pos e149]
      exact hc49 L xs h s i k hL hI h0 h1
    rw [if_neg e149]
    by_cases e150 : v = (50 : Int32)
    · rw [if_pos e150]
      exact hc50 L xs h s i k hL hI h0 h1
    rw [if_neg e150]
    by_cases e151 : v = (51 : Int32)
    · rw [if_pos e151]
      exact hc51 L xs h s i k hL hI h0 h1
    rw [if_neg e151]
    by_cases e152 : v = (52 : Int32)
    · rw [if_pos e152]
      exact hc52 L xs h s i k hL hI h0 h1
    rw [if_neg e152]
    by_cases e153 : v = (53 : Int32)
    · rw [if_pos e153]
      exact hc53 L xs h s i k hL hI h0 h1
    rw [if_neg e153]
    exfalso
    have hv : v = zE v.toInt := zE_of v
    have : v.toInt = 0 ∨ v.toInt = 1 ∨ v.toInt = 2 ∨ v.toInt = 3 ∨ v.toInt = 4 ∨ v.toInt = 5 ∨ v.toInt = 6 ∨ v.toInt = 7 ∨ v.toInt = 8 ∨ v.toInt = 9 ∨ v.toInt = 10 ∨ v.toInt = 11 ∨ v.toInt = 12 ∨ v.toInt = 13 ∨ v.toInt = 14 ∨ v.toInt = 15 ∨ v.toInt = 16 ∨ v.toInt = 17 ∨ v.toInt = 18 ∨ v.toInt = 19 ∨ v.toInt = 20 ∨ v.toInt = 21 ∨ v.toInt = 22 ∨ v.toInt = 23 ∨ v.toInt = 24 ∨ v.toInt = 25 ∨ v.toInt = 26 ∨ v.toInt = 27 ∨ v.toInt = 28 ∨ v.toInt = 29 ∨ v.toInt = 30 ∨ v.toInt = 31 ∨ v.toInt = 32 ∨ v.toInt = 33 ∨ v.toInt = 34 ∨ v.toInt = 35 ∨ v.toInt = 36 ∨ v.toInt = 37 ∨ v.toInt = 38 ∨ v.toInt = 39 ∨ v.toInt = 40 ∨ v.toInt = 41 ∨ v.toInt = 42 ∨ v.toInt = 43 ∨ v.toInt = 44 ∨ v.toInt = 45 ∨ v.toInt = 46 ∨ v.toInt = 47 ∨ v.toInt = 48 ∨ v.toInt = 49 ∨ v.toInt = 50 ∨ v.toInt = 51 ∨ v.toInt = 52 ∨ v.toInt = 53 := by omega
    rcases this with z | z | z | z | z | z | z | z | z | z | z | z | z | z | z | z | z | z | z | z | z | z | z | z | z | z | z | z | z | z | z | z | z | z | z | z | z | z | z | z | z | z | z | z | z | z | z | z | z | z | z | z | z | z
    · exact e100 (by rw [hv, z]; rfl)
    · exact e101 (by rw [hv, z]; rfl)
    · exact e102 (by rw [hv, z]; rfl)
    · exact e103 (by rw [hv, z]; rfl)
    · exact e104 (by rw [hv, z]; rfl)
    · exact e105 (by rw [hv, z]; rfl)
    · exact e106 (by rw [hv, z]; rfl)
    · exact e107 (by rw [hv, z]; rfl)
    · exact e108 (by rw [hv, z]; rfl)
    · exact e109 (by rw [hv, z]; rfl)
    · exact e110 (by rw [hv, z]; rfl)
    · exact e111 (by rw [hv, z]; rfl)
    · exact e112 (by rw [hv, z]; rfl)
    · exact e113 (by rw [hv, z]; rfl)
    · exact e114 (by rw [hv, z]; rfl)
    · exact e115 (by rw [hv, z]; rfl)
    · exact e116 (by rw [hv, z]; rfl)
    · exact e117 (by rw [hv, z]; rfl)
    · exact e118 (by rw [hv, z]; rfl)
    · exact e119 (by rw [hv, z]; rfl)
    · exact e120 (by rw [hv, z]; rfl)
    · exact e121 (by rw [hv, z]; rfl)
    · exact e122 (by rw [hv, z]; rfl)
    · exact e123 (by rw [hv, z]; rfl)
    · exact e124 (by rw [hv, z]; rfl)
    · exact e125 (by rw [hv, z]; rfl)
    · exact e126 (by rw [hv, z]; rfl)
    · exact e127 (by rw [hv, z]; rfl)
    · exact e128 (by rw [hv, z]; rfl)
    · exact e129 (by rw [hv, z]; rfl)
    · exact e130 (by rw [hv, z]; rfl)
    · exact e131 (by rw [hv, z]; rfl)
    · exact e132 (by rw [hv, z]; rfl)
    · exact e133 (by rw [hv, z]; rfl)
    · exact e134 (by rw [hv, z]; rfl)
    · exact e135 (by rw [hv, z]; rfl)
    · exact e136 (by rw [hv, z]; rfl)
    · exact e137 (by rw [hv, z]; rfl)
    · exact e138 (by rw [hv, z]; rfl)
    · exact e139 (by rw [hv, z]; rfl)
    · exact e140 (by rw [hv, z]; rfl)
    · exact e141 (by rw [hv, z]; rfl)
    · exact e142 (by rw [hv, z]; rfl)
    · exact e143 (by rw [hv, z]; rfl)
    · exact e144 (by rw [hv, z]; rfl)
    · exact e145 (by rw [hv, z]; rfl)
    · exact e146 (by rw [hv, z]; rfl)
    · exact e147 (by rw [hv, z]; rfl)
    · exact e148 (by rw [hv, z]; rfl)
    · exact e149 (by rw [hv, z]; rfl)
    · exact e150 (by rw [hv, z]; rfl)
    · exact e151 (by rw [hv, z]; rfl)
    · exact e152 (by rw [hv, z]; rfl)
    · exact e153 (by rw [hv, z]; rfl)
theorem zLaw (hc0 : zCase fun k => zm291_28 k) (hc1 : zCase fun k => zm291_159 k) (hc2 : zCase fun k => zm291_204 k) (hc3 : zCase fun k => zm291_242 k) (hc4 : zCase fun k => zm291_277 k) (hc5 : zCase fun k => zm291_284 k) (hc6 : zCase fun k => zm291_309 k) (hc7 : zCase fun k => zm291_374 k) (hc8 : zCase fun k => zm291_419 k) (hc9 : zCase fun k => zm291_464 k) (hc10 : zCase fun k => zm291_499 k) (hc11 : zCase fun k => zm291_534 k) (hc12 : zCase fun k => zm291_569 k) (hc13 : zCase fun k => zm291_604 k) (hc14 : zCase fun k => zm291_639 k) (hc15 : zCase fun k => zm291_669 k) (hc16 : zCase fun k => zm291_694 k) (hc17 : zCase fun k => zm291_701 k) (hc18 : zCase fun k => zm291_708 k) (hc19 : zCase fun k => zm291_753 k) (hc20 : zCase fun k => zm291_798 k) (hc21 : zCase fun k => zm291_843 k) (hc22 : zCase fun k => zm291_888 k) (hc23 : zCase fun k => zm291_933 k) (hc24 : zCase fun k => zm291_978 k) (hc25 : zCase fun k => zm291_1023 k) (hc26 : zCase fun k => zm291_1068 k) (hc27 : zCase fun k => zm291_1100 k) (hc28 : zCase fun k => zm291_1142 k) (hc29 : zCase fun k => zm291_1177 k) (hc30 : zCase fun k => zm291_1209 k) (hc31 : zCase fun k => zm291_1254 k) (hc32 : zCase fun k => zm291_1345 k) (hc33 : zCase fun k => zm291_1401 k) (hc34 : zCase fun k => zm291_1446 k) (hc35 : zCase fun k => zm291_1491 k) (hc36 : zCase fun k => zm291_1566 k) (hc37 : zCase fun k => zm291_1604 k) (hc38 : zCase fun k => zm291_1669 k) (hc39 : zCase fun k => zm291_1714 k) (hc40 : zCase fun k => zm291_1762 k) (hc41 : zCase fun k => zm291_1807 k) (hc42 : zCase fun k => zm291_1842 k) (hc43 : zCase fun k => zm291_1877 k) (hc44 : zCase fun k => zm291_1922 k) (hc45 : zCase fun k => zm291_1957 k) (hc46 : zCase fun k => zm291_1999 k) (hc47 : zCase fun k => zm291_2082 k) (hc48 : zCase fun k => zm291_2120 k) (hc49 : zCase fun k => zm291_2152 k) (hc50 : zCase fun k => zm291_2200 k) (hc51 : zCase fun k => zm291_2207 k) (hc52 : zCase fun k => zm291_2282 k) (hc53 : zCase fun k => zm291_2304 k) : ∀ (m n : Nat) (L : Nat) (xs : Nat → Int32) (h : zH) (s : zS) (i : Int), L ≤ 5120 → zInv L xs h s → 0 ≤ i → i ≤ L → (L : Int) - i < 10 * m + 10 → m < n →
    ∃ h' s', zInv L xs h' s' ∧ zce h' ≤ zce h + 40 * m ∧ zso h' ≤ zso h + 5000 * m ∧ zm291_16 n (some (40, 0)) (some (12, 0)) (some (13, 0)) (some (38, 0)) (some (39, 0)) (zE i) h = some (.inl 1, h') := by
  intro m
  induction m with
  | zero =>
    intro n L xs h s i hL hI h0 h1 h2 h3
    obtain ⟨n, rfl⟩ : ∃ n', n = n' + 1 := ⟨n - 1, by omega⟩
    refine ⟨h, s, hI, by omega, by omega, ?_⟩
    have hln := hI.2.2.2.2.2.1
    show zal (some (40, 0)) _ = _
    show (if (nI (zln h 40 0) - (10 : Int32)) < zE i then _ else _) = _
    rw [hln, zE_nI, zE_10, zE_sub, if_pos (by rw [zE_lt (by omega) (by omega) (by omega) (by omega)]; omega)]
  | succ m ih =>
    intro n L xs h s i hL hI h0 h1 h2 h3
    obtain ⟨n, rfl⟩ : ∃ n', n = n' + 1 := ⟨n - 1, by omega⟩
    have hln := hI.2.2.2.2.2.1
    by_cases c : (L : Int) - 10 < i
    · refine ⟨h, s, hI, by omega, by omega, ?_⟩
      show zal (some (40, 0)) _ = _
      show (if (nI (zln h 40 0) - (10 : Int32)) < zE i then _ else _) = _
      rw [hln, zE_nI, zE_10, zE_sub, if_pos (by rw [zE_lt (by omega) (by omega) (by omega) (by omega)]; omega)]
    · obtain ⟨h', s', a1, a2, a3, a4⟩ := zLaw1 hc0 hc1 hc2 hc3 hc4 hc5 hc6 hc7 hc8 hc9 hc10 hc11 hc12 hc13 hc14 hc15 hc16 hc17 hc18 hc19 hc20 hc21 hc22 hc23 hc24 hc25 hc26 hc27 hc28 hc29 hc30 hc31 hc32 hc33 hc34 hc35 hc36 hc37 hc38 hc39 hc40 hc41 hc42 hc43 hc44 hc45 hc46 hc47 hc48 hc49 hc50 hc51 hc52 hc53 L xs h s i (zm291_16 n) hL hI h0 (by omega)
      obtain ⟨h2', s2', b1, b2, b3, b4⟩ := ih n L xs h' s' (i + 10) hL a1 (by omega) (by omega) (by omega) (by omega)
      refine ⟨h2', s2', b1, by omega, by omega, ?_⟩
      rw [← b4, ← a4]
      show zal (some (40, 0)) _ = _
      show (if (nI (zln h 40 0) - (10 : Int32)) < zE i then _ else _) = _
      rw [hln, zE_nI, zE_10, zE_sub, if_neg (by rw [zE_lt (by omega) (by omega) (by omega) (by omega)]; omega)]
