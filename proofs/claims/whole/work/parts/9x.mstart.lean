set_option maxRecDepth 16384
/-! The start: the model (printed by wip/whole/gen/mstart.py). -/
def zfs (h : zH) (e : Nat × Nat × Nat) : zH := zsr (znw h e.2.1 e.2.2 e.2.2) 13 0 e.1 (some (e.2.1, 0))
def zfold (l : List (Nat × Nat × Nat)) (h : zH) : zH := l.foldl zfs h
theorem zfs_c {h : zH} {j k n k' : Nat} : zct (zfs h (j, k, n)) k' = if k' = k then zct h k + 1 else zct h k' := rfl
theorem zal_step {N : Int32} {h : zH} {j k n : Nat} {F : zH → zRs Unit} (hN : ¬ (N < 0 ∨ 100000 < N.toNatClampNeg)) (hn : N.toNatClampNeg = n) (hc : zct h k = 0) : (if N < 0 ∨ 100000 < N.toNatClampNeg then none else zlet (znw h k N.toNatClampNeg N.toNatClampNeg) fun h' => zlet (zsr h' 13 0 j (some (k, zct h k))) F) = F (zfs h (j, k, n)) := by
  rw [if_neg hN, zlet_s, zlet_s, hn, hc]
  rfl
/-- rows that stand for themselves -/
theorem zfold_p : ∀ (l : List (Nat × Nat × Nat)) (h : zH), (∀ e ∈ l, zct h e.2.1 = 0 ∧ 100 ≤ e.2.1) → l.Pairwise (fun a b => a.2.1 ≠ b.2.1 ∧ a.1 ≠ b.1) →
    (∀ e ∈ l, zr (zfold l h) 13 0 e.1 = some (e.2.1, 0) ∧ zln (zfold l h) e.2.1 0 = e.2.2 ∧ ∀ x, zi (zfold l h) e.2.1 0 x = 0) ∧ (∀ j, (∀ e ∈ l, j ≠ e.1) → zr (zfold l h) 13 0 j = zr h 13 0 j) ∧ zi (zfold l h) 13 = zi h 13 ∧ zKp (fun k => k ≠ 13 ∧ ∀ e ∈ l, k ≠ e.2.1) h (zfold l h) ∧ zce (zfold l h) = zce h + l.length ∧ zso (zfold l h) = zso h + (l.map (·.2.2)).sum
  | [], h, _, _ => ⟨fun e he => (List.not_mem_nil he).elim, fun _ _ => rfl, rfl, zKp.rf, rfl, rfl⟩
  | e :: l, h, hc, hp => by
    obtain ⟨hp1, hp2⟩ := List.pairwise_cons.mp hp
    have hc0 := hc e List.mem_cons_self
    have hs : ∀ k, zct (zfs h e) k = if k = e.2.1 then zct h e.2.1 + 1 else zct h k := fun k => rfl
    have ih := zfold_p l (zfs h e) (fun e' he' => by
      obtain ⟨a1, a2⟩ := hc e' (List.mem_cons_of_mem _ he')
      refine ⟨?_, a2⟩
      rw [hs, if_neg (fun z => (hp1 e' he').1 z.symm)]
      exact a1) hp2
    have ef : zfold (e :: l) h = zfold l (zfs h e) := rfl
    rw [ef]
    obtain ⟨i1, i2, i3, i4, i5, i6⟩ := ih
    have n13 : e.2.1 ≠ 13 := by omega
    refine ⟨fun e' he' => ?_, fun j hj => ?_, ?_, ?_, ?_, ?_⟩
    · rcases List.mem_cons.mp he' with rfl | he'
      · obtain ⟨g1, g2, g3, g4, -⟩ := i4 e'.2.1 ⟨n13, fun e2 he2 => (hp1 e2 he2).1⟩
        refine ⟨?_, ?_, fun x => ?_⟩
        · rw [i2 e'.1 (fun e2 he2 => (hp1 e2 he2).2)]
          exact if_pos ⟨rfl, rfl, rfl⟩
        · rw [g2]
          exact if_pos ⟨rfl, hc0.1.symm⟩
        · rw [g3]
          exact if_pos ⟨rfl, hc0.1.symm⟩
      · exact i1 e' he'
    · rw [i2 j (fun e2 he2 => hj e2 (List.mem_cons_of_mem _ he2))]
      have ne := hj e List.mem_cons_self
      show (if 13 = 13 ∧ 0 = 0 ∧ j = e.1 then some (e.2.1, 0) else zr (znw h e.2.1 e.2.2 e.2.2) 13 0 j) = _
      rw [if_neg (fun z => ne z.2.2), lkn_r, if_neg (fun z => n13 z.1.symm)]
    · rw [i3]
      funext i j
      show zi (znw h e.2.1 e.2.2 e.2.2) 13 i j = _
      rw [lkn_i, if_neg (fun z => n13 z.1.symm)]
    · refine zKp.tr (h1 := zfs h e) ?_ (i4.mn fun k hk => ⟨hk.1, fun e2 he2 => hk.2 e2 (List.mem_cons_of_mem _ he2)⟩)
      exact (zKp_nw (fun z => z.2 e List.mem_cons_self rfl)).tr (zKp_r (fun z => z.1 rfl))
    · rw [i5]
      show zce h + 1 + l.length = zce h + (l.length + 1)
      omega
    · rw [i6, List.map_cons, List.sum_cons]
      show zso h + e.2.2 + _ = _
      omega
theorem zfs_cc {h : zH} {l : List Nat} {j k n : Nat} (c : ∀ x, 100 ≤ x → x ∉ l → zct h x = 0) : ∀ x, 100 ≤ x → x ∉ (k :: l) → zct (zfs h (j, k, n)) x = 0 := fun x a b => by
  rw [zfs_c, if_neg (fun z => b (by rw [z]; exact List.mem_cons_self))]
  exact c x a (fun z => b (List.mem_cons_of_mem _ z))
theorem zp136_e {h : zH} (c : ∀ k, 100 ≤ k → zct h k = 0) : zm136 (some (13, 0)) h = zm136_260 zm136_275 zN0 (some (13, 0)) 0 (zfold zmA h) := by
  rw [zm136, znn_s]
  simp only [zM_ob]
  have c0 : ∀ x, 100 ≤ x → x ∉ ([] : List Nat) → zct h x = 0 := fun x a _ => c x a
  rw [zal_step (N := 30) (n := 30) (j := 3) (k := 103) (by decide) (by decide) (c0 103 (by decide) (by decide))]
  have c1 := zfs_cc (j := 3) (k := 103) (n := 30) c0
  clear c0
  rw [zal_step (N := 30) (n := 30) (j := 4) (k := 104) (by decide) (by decide) (c1 104 (by decide) (by decide))]
  have c2 := zfs_cc (j := 4) (k := 104) (n := 30) c1
  clear c1
  rw [zal_step (N := 30) (n := 30) (j := 5) (k := 105) (by decide) (by decide) (c2 105 (by decide) (by decide))]
  have c3 := zfs_cc (j := 5) (k := 105) (n := 30) c2
  clear c2
  rw [zal_step (N := 30) (n := 30) (j := 6) (k := 106) (by decide) (by decide) (c3 106 (by decide) (by decide))]
  have c4 := zfs_cc (j := 6) (k := 106) (n := 30) c3
  clear c3
  rw [zal_step (N := 30) (n := 30) (j := 7) (k := 107) (by decide) (by decide) (c4 107 (by decide) (by decide))]
  have c5 := zfs_cc (j := 7) (k := 107) (n := 30) c4
  clear c4
  rw [zal_step (N := 30) (n := 30) (j := 8) (k := 108) (by decide) (by decide) (c5 108 (by decide) (by decide))]
  have c6 := zfs_cc (j := 8) (k := 108) (n := 30) c5
  clear c5
  rw [zal_step (N := 30) (n := 30) (j := 9) (k := 109) (by decide) (by decide) (c6 109 (by decide) (by decide))]
  have c7 := zfs_cc (j := 9) (k := 109) (n := 30) c6
  clear c6
  rw [zal_step (N := 30) (n := 30) (j := 10) (k := 210) (by decide) (by decide) (c7 210 (by decide) (by decide))]
  have c8 := zfs_cc (j := 10) (k := 210) (n := 30) c7
  clear c7
  rw [zal_step (N := 30) (n := 30) (j := 11) (k := 211) (by decide) (by decide) (c8 211 (by decide) (by decide))]
  have c9 := zfs_cc (j := 11) (k := 211) (n := 30) c8
  clear c8
  rw [zal_step (N := 12) (n := 12) (j := 12) (k := 112) (by decide) (by decide) (c9 112 (by decide) (by decide))]
  have c10 := zfs_cc (j := 12) (k := 112) (n := 12) c9
  clear c9
  rw [zal_step (N := 12) (n := 12) (j := 13) (k := 113) (by decide) (by decide) (c10 113 (by decide) (by decide))]
  have c11 := zfs_cc (j := 13) (k := 113) (n := 12) c10
  clear c10
  rw [zal_step (N := 12) (n := 12) (j := 14) (k := 114) (by decide) (by decide) (c11 114 (by decide) (by decide))]
  have c12 := zfs_cc (j := 14) (k := 114) (n := 12) c11
  clear c11
  rw [zal_step (N := 12) (n := 12) (j := 15) (k := 115) (by decide) (by decide) (c12 115 (by decide) (by decide))]
  have c13 := zfs_cc (j := 15) (k := 115) (n := 12) c12
  clear c12
  rw [zal_step (N := 12) (n := 12) (j := 16) (k := 116) (by decide) (by decide) (c13 116 (by decide) (by decide))]
  have c14 := zfs_cc (j := 16) (k := 116) (n := 12) c13
  clear c13
  rw [zal_step (N := 12) (n := 12) (j := 17) (k := 117) (by decide) (by decide) (c14 117 (by decide) (by decide))]
  have c15 := zfs_cc (j := 17) (k := 117) (n := 12) c14
  clear c14
  rw [zal_step (N := 800) (n := 800) (j := 18) (k := 118) (by decide) (by decide) (c15 118 (by decide) (by decide))]
  have c16 := zfs_cc (j := 18) (k := 118) (n := 800) c15
  clear c15
  rw [zal_step (N := 32) (n := 32) (j := 20) (k := 120) (by decide) (by decide) (c16 120 (by decide) (by decide))]
  have c17 := zfs_cc (j := 20) (k := 120) (n := 32) c16
  clear c16
  rw [zal_step (N := 4) (n := 4) (j := 21) (k := 121) (by decide) (by decide) (c17 121 (by decide) (by decide))]
  have c18 := zfs_cc (j := 21) (k := 121) (n := 4) c17
  clear c17
  rw [zal_step (N := 4) (n := 4) (j := 22) (k := 122) (by decide) (by decide) (c18 122 (by decide) (by decide))]
  have c19 := zfs_cc (j := 22) (k := 122) (n := 4) c18
  clear c18
  rw [zal_step (N := 4) (n := 4) (j := 23) (k := 123) (by decide) (by decide) (c19 123 (by decide) (by decide))]
  have c20 := zfs_cc (j := 23) (k := 123) (n := 4) c19
  clear c19
  rw [zal_step (N := 4) (n := 4) (j := 24) (k := 124) (by decide) (by decide) (c20 124 (by decide) (by decide))]
  have c21 := zfs_cc (j := 24) (k := 124) (n := 4) c20
  clear c20
  rw [zal_step (N := 6) (n := 6) (j := 26) (k := 126) (by decide) (by decide) (c21 126 (by decide) (by decide))]
  have c22 := zfs_cc (j := 26) (k := 126) (n := 6) c21
  clear c21
  rw [zal_step (N := 60) (n := 60) (j := 27) (k := 127) (by decide) (by decide) (c22 127 (by decide) (by decide))]
  have c23 := zfs_cc (j := 27) (k := 127) (n := 60) c22
  clear c22
  rw [zal_step (N := 60) (n := 60) (j := 28) (k := 128) (by decide) (by decide) (c23 128 (by decide) (by decide))]
  have c24 := zfs_cc (j := 28) (k := 128) (n := 60) c23
  clear c23
  rw [zal_step (N := 60) (n := 60) (j := 29) (k := 129) (by decide) (by decide) (c24 129 (by decide) (by decide))]
  have c25 := zfs_cc (j := 29) (k := 129) (n := 60) c24
  clear c24
  rw [zal_step (N := 20) (n := 20) (j := 31) (k := 131) (by decide) (by decide) (c25 131 (by decide) (by decide))]
  have c26 := zfs_cc (j := 31) (k := 131) (n := 20) c25
  clear c25
  rw [zal_step (N := 20) (n := 20) (j := 32) (k := 132) (by decide) (by decide) (c26 132 (by decide) (by decide))]
  have c27 := zfs_cc (j := 32) (k := 132) (n := 20) c26
  clear c26
  rw [zal_step (N := 20) (n := 20) (j := 33) (k := 133) (by decide) (by decide) (c27 133 (by decide) (by decide))]
  have c28 := zfs_cc (j := 33) (k := 133) (n := 20) c27
  clear c27
  rw [zal_step (N := 20) (n := 20) (j := 34) (k := 134) (by decide) (by decide) (c28 134 (by decide) (by decide))]
  have c29 := zfs_cc (j := 34) (k := 134) (n := 20) c28
  clear c28
  rw [zal_step (N := 20) (n := 20) (j := 35) (k := 135) (by decide) (by decide) (c29 135 (by decide) (by decide))]
  have c30 := zfs_cc (j := 35) (k := 135) (n := 20) c29
  clear c29
  rw [zal_step (N := 20) (n := 20) (j := 36) (k := 136) (by decide) (by decide) (c30 136 (by decide) (by decide))]
  have c31 := zfs_cc (j := 36) (k := 136) (n := 20) c30
  clear c30
  rw [zal_step (N := 20) (n := 20) (j := 37) (k := 237) (by decide) (by decide) (c31 237 (by decide) (by decide))]
  have c32 := zfs_cc (j := 37) (k := 237) (n := 20) c31
  clear c31
  rw [zal_step (N := 20) (n := 20) (j := 38) (k := 238) (by decide) (by decide) (c32 238 (by decide) (by decide))]
  have c33 := zfs_cc (j := 38) (k := 238) (n := 20) c32
  clear c32
  rw [zal_step (N := 20) (n := 20) (j := 40) (k := 140) (by decide) (by decide) (c33 140 (by decide) (by decide))]
  have c34 := zfs_cc (j := 40) (k := 140) (n := 20) c33
  clear c33
  rw [zal_step (N := 60) (n := 60) (j := 41) (k := 241) (by decide) (by decide) (c34 241 (by decide) (by decide))]
  have c35 := zfs_cc (j := 41) (k := 241) (n := 60) c34
  clear c34
  rw [zal_step (N := 60) (n := 60) (j := 42) (k := 142) (by decide) (by decide) (c35 142 (by decide) (by decide))]
  have c36 := zfs_cc (j := 42) (k := 142) (n := 60) c35
  clear c35
  rw [zal_step (N := 24) (n := 24) (j := 47) (k := 147) (by decide) (by decide) (c36 147 (by decide) (by decide))]
  have c37 := zfs_cc (j := 47) (k := 147) (n := 24) c36
  clear c36
  rw [zal_step (N := 14400) (n := 14400) (j := 48) (k := 248) (by decide) (by decide) (c37 248 (by decide) (by decide))]
  have c38 := zfs_cc (j := 48) (k := 248) (n := 14400) c37
  clear c37
  rw [zal_step (N := 14400) (n := 14400) (j := 49) (k := 149) (by decide) (by decide) (c38 149 (by decide) (by decide))]
  have c39 := zfs_cc (j := 49) (k := 149) (n := 14400) c38
  clear c38
  rw [zal_step (N := 4) (n := 4) (j := 50) (k := 250) (by decide) (by decide) (c39 250 (by decide) (by decide))]
  have c40 := zfs_cc (j := 50) (k := 250) (n := 4) c39
  clear c39
  rw [zal_step (N := 8) (n := 8) (j := 52) (k := 152) (by decide) (by decide) (c40 152 (by decide) (by decide))]
  have c41 := zfs_cc (j := 52) (k := 152) (n := 8) c40
  clear c40
  rw [zal_step (N := 8) (n := 8) (j := 53) (k := 153) (by decide) (by decide) (c41 153 (by decide) (by decide))]
  have c42 := zfs_cc (j := 53) (k := 153) (n := 8) c41
  clear c41
  rw [zal_step (N := 8) (n := 8) (j := 54) (k := 154) (by decide) (by decide) (c42 154 (by decide) (by decide))]
  have c43 := zfs_cc (j := 54) (k := 154) (n := 8) c42
  clear c42
  rw [zal_step (N := 8) (n := 8) (j := 55) (k := 155) (by decide) (by decide) (c43 155 (by decide) (by decide))]
  have c44 := zfs_cc (j := 55) (k := 155) (n := 8) c43
  clear c43
  rw [zal_step (N := 9) (n := 9) (j := 56) (k := 256) (by decide) (by decide) (c44 256 (by decide) (by decide))]
  have c45 := zfs_cc (j := 56) (k := 256) (n := 9) c44
  clear c44
  rw [zal_step (N := 3) (n := 3) (j := 57) (k := 157) (by decide) (by decide) (c45 157 (by decide) (by decide))]
  have c46 := zfs_cc (j := 57) (k := 157) (n := 3) c45
  clear c45
  rw [zal_step (N := 6) (n := 6) (j := 59) (k := 159) (by decide) (by decide) (c46 159 (by decide) (by decide))]
  have c47 := zfs_cc (j := 59) (k := 159) (n := 6) c46
  clear c46
  rw [zal_step (N := 6) (n := 6) (j := 60) (k := 160) (by decide) (by decide) (c47 160 (by decide) (by decide))]
  have c48 := zfs_cc (j := 60) (k := 160) (n := 6) c47
  clear c47
  rw [zal_step (N := 8) (n := 8) (j := 61) (k := 161) (by decide) (by decide) (c48 161 (by decide) (by decide))]
  have c49 := zfs_cc (j := 61) (k := 161) (n := 8) c48
  clear c48
  rw [zal_step (N := 8) (n := 8) (j := 62) (k := 162) (by decide) (by decide) (c49 162 (by decide) (by decide))]
  have c50 := zfs_cc (j := 62) (k := 162) (n := 8) c49
  clear c49
  rw [zal_step (N := 8) (n := 8) (j := 63) (k := 263) (by decide) (by decide) (c50 263 (by decide) (by decide))]
  have c51 := zfs_cc (j := 63) (k := 263) (n := 8) c50
  clear c50
  rw [zal_step (N := 8) (n := 8) (j := 64) (k := 164) (by decide) (by decide) (c51 164 (by decide) (by decide))]
  have c52 := zfs_cc (j := 64) (k := 164) (n := 8) c51
  clear c51
  rw [zal_step (N := 8) (n := 8) (j := 65) (k := 165) (by decide) (by decide) (c52 165 (by decide) (by decide))]
  have c53 := zfs_cc (j := 65) (k := 165) (n := 8) c52
  clear c52
  rw [zal_step (N := 32) (n := 32) (j := 66) (k := 166) (by decide) (by decide) (c53 166 (by decide) (by decide))]
  have c54 := zfs_cc (j := 66) (k := 166) (n := 32) c53
  clear c53
  rw [zal_step (N := 32) (n := 32) (j := 67) (k := 267) (by decide) (by decide) (c54 267 (by decide) (by decide))]
  have c55 := zfs_cc (j := 67) (k := 267) (n := 32) c54
  clear c54
  rw [zal_step (N := 32) (n := 32) (j := 68) (k := 168) (by decide) (by decide) (c55 168 (by decide) (by decide))]
  have c56 := zfs_cc (j := 68) (k := 168) (n := 32) c55
  clear c55
  rw [zal_step (N := 32) (n := 32) (j := 69) (k := 169) (by decide) (by decide) (c56 169 (by decide) (by decide))]
  have c57 := zfs_cc (j := 69) (k := 169) (n := 32) c56
  clear c56
  rw [zal_step (N := 200) (n := 200) (j := 70) (k := 170) (by decide) (by decide) (c57 170 (by decide) (by decide))]
  have c58 := zfs_cc (j := 70) (k := 170) (n := 200) c57
  clear c57
  rw [zal_step (N := 8) (n := 8) (j := 72) (k := 172) (by decide) (by decide) (c58 172 (by decide) (by decide))]
  have c59 := zfs_cc (j := 72) (k := 172) (n := 8) c58
  clear c58
  rw [zal_step (N := 8) (n := 8) (j := 73) (k := 173) (by decide) (by decide) (c59 173 (by decide) (by decide))]
  have c60 := zfs_cc (j := 73) (k := 173) (n := 8) c59
  clear c59
  rw [zal_step (N := 8) (n := 8) (j := 74) (k := 174) (by decide) (by decide) (c60 174 (by decide) (by decide))]
  have c61 := zfs_cc (j := 74) (k := 174) (n := 8) c60
  clear c60
  rw [zal_step (N := 8) (n := 8) (j := 75) (k := 175) (by decide) (by decide) (c61 175 (by decide) (by decide))]
  have c62 := zfs_cc (j := 75) (k := 175) (n := 8) c61
  clear c61
  rw [zal_step (N := 8) (n := 8) (j := 76) (k := 176) (by decide) (by decide) (c62 176 (by decide) (by decide))]
  have c63 := zfs_cc (j := 76) (k := 176) (n := 8) c62
  clear c62
  rw [zal_step (N := 8) (n := 8) (j := 77) (k := 277) (by decide) (by decide) (c63 277 (by decide) (by decide))]
  have c64 := zfs_cc (j := 77) (k := 277) (n := 8) c63
  clear c63
  rfl
