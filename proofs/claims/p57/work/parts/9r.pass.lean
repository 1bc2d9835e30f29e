set_option maxRecDepth 16384
/-! pass: both sides. -/
def zdy1 (s : zS) : zS := zlg0 (zdx (zup s 1 0 (s 1 0 + 1)) 4) (s 58 0).toNat
noncomputable def zdy2 (s : zS) : zS := ztuN (zdy1 s) 1 (s 30 0).toNat
noncomputable def zdy3 (s : zS) : zS := ztuN (zdy2 s) 0 (s 30 0).toNat
noncomputable def zdyC (s : zS) : Int := ztuC (zdy1 s) 1 (s 30 0).toNat + ztuC (zdy2 s) 0 (s 30 0).toNat
noncomputable def zdyN (s : zS) : Nat → zS
  | 0 => s
  | n + 1 => zdy3 (zdyN s n)
noncomputable def zdyK (s : zS) : Nat → Int
  | 0 => 0
  | n + 1 => zdyK s n + zdyC (zdyN s n)
theorem zdyN_i {s : zS} {i : Int} (i0 : 0 ≤ i) : zdyN s (i + 1).toNat = zdy3 (zdyN s i.toNat) := by
  rw [show (i + 1).toNat = i.toNat + 1 by omega]
  rfl
theorem zdyK_i {s : zS} {i : Int} (i0 : 0 ≤ i) : zdyK s (i + 1).toNat = zdyK s i.toNat + zdyC (zdyN s i.toNat) := by
  rw [show (i + 1).toNat = i.toNat + 1 by omega]
  rfl
theorem zdx_j {s : zS} (hW : zWf s) : ∀ j, j ≠ 20 → j ≠ 24 → zdx (zup s 1 0 (s 1 0 + 1)) 4 j = zup s 1 0 (s 1 0 + 1) j := by
  obtain ⟨wA, wK, wC, wD, wP, wR, wZ, wT, wG, wE, wM, wX⟩ := hW
  exact (zdb_x (t := zup s 1 0 (s 1 0 + 1)) wA wK (fun v v0 v1 => ⟨(wD.2.2 v v0 v1).2.1, (wD.2.2 v v0 v1).2.2.1⟩) (fun x x0 x1 => (wD.2.1 x x0 x1).1) (fun v v0 v1 => (wD.2.2 v v0 v1).2.2.2.1.1) 4 (Nat.le_refl _)).1
theorem zdy_W {s : zS} (hW : zWf s) (hd : s 1 0 < 20000) : zWf (zdx (zup s 1 0 (s 1 0 + 1)) 4) ∧ (zWf (zdy1 s) ∧ zdy1 s 30 = s 30 ∧ (s 0 0 = 0 → zdy1 s 0 0 = 0)) ∧ (zWf (zdy2 s) ∧ zdy2 s 30 = s 30 ∧ (s 0 0 = 0 → zdy2 s 0 0 = 0)) ∧ zWf (zdy3 s) ∧ zdy3 s 1 0 = s 1 0 + 1 ∧ (s 0 0 = 0 → zdy3 s 0 0 = 0) := by
  have h20 := hW.2.2.2.2.2.1.1
  have h6 := hW.2.2.2.2.2.2.2.1.1
  have W1 := zdx_W hW hd
  have x1 := zdx_j hW
  have e58 : zdx (zup s 1 0 (s 1 0 + 1)) 4 58 = s 58 := x1 58 (by decide) (by decide)
  have W2 : zWf (zdy1 s) := zlg0_W W1 (s 58 0).toNat (by rw [e58]; omega)
  have k : ∀ j, j ≠ 20 → j ≠ 24 → j ≠ 40 → j ≠ 37 → j ≠ 60 → zdy1 s j = zup s 1 0 (s 1 0 + 1) j := fun j a b c d e => (zlg0_j c d e _).trans (x1 j a b)
  have k30 : zdy1 s 30 = s 30 := k 30 (by decide) (by decide) (by decide) (by decide) (by decide)
  have k1 : zdy1 s 1 0 = s 1 0 + 1 := by
    rw [k 1 (by decide) (by decide) (by decide) (by decide) (by decide)]
    exact zup_s
  have k0 : s 0 0 = 0 → zdy1 s 0 0 = 0 := fun z => by
    rw [k 0 (by decide) (by decide) (by decide) (by decide) (by decide)]
    exact z
  obtain ⟨W3, a0, aj⟩ := ztuN_W (p := 1) W2 (s 30 0).toNat (by rw [k30]; omega)
  have a30 : zdy2 s 30 = s 30 := (aj 30 (by unfold zjn; decide) (by decide) (by decide)).trans k30
  have a1 : zdy2 s 1 = zdy1 s 1 := aj 1 (by unfold zjn; decide) (by decide) (by decide)
  obtain ⟨W4, b0, bj⟩ := ztuN_W (s := zdy2 s) (p := 0) W3 (s 30 0).toNat (by rw [a30]; omega)
  have b1 : zdy3 s 1 = zdy2 s 1 := bj 1 (by unfold zjn; decide) (by decide) (by decide)
  exact ⟨W1, ⟨W2, k30, k0⟩, ⟨W3, a30, fun z => a0 (k0 z)⟩, W4, by rw [b1, a1]; exact k1, fun z => b0 (a0 (k0 z))⟩
theorem zdyN_W {s : zS} (hW : zWf s) : ∀ n : Nat, s 1 0 + n ≤ 20000 → zWf (zdyN s n) ∧ zdyN s n 1 0 = s 1 0 + n ∧ (s 0 0 = 0 → zdyN s n 0 0 = 0)
  | 0, _ => ⟨hW, by
      show s 1 0 = s 1 0 + ((0 : Nat) : Int)
      omega, fun z => z⟩
  | n + 1, hn => by
    obtain ⟨a1, a2, a3⟩ := zdyN_W hW n (by omega)
    obtain ⟨-, -, -, b1, b2, b3⟩ := zdy_W a1 (by omega)
    exact ⟨b1, by
      show zdy3 (zdyN s n) 1 0 = _
      omega, fun z => b3 (a3 z)⟩
theorem zday {s : zS} (hW : zWf s) : (∀ v, 0 ≤ v → v < 4 → (0 ≤ zup s 1 0 (s 1 0 + 1) 22 v ∧ zup s 1 0 (s 1 0 + 1) 22 v ≤ 7) ∧ -1 ≤ zup s 1 0 (s 1 0 + 1) 23 v ∧ zup s 1 0 (s 1 0 + 1) 23 v ≤ 7) ∧ (∀ x, 0 ≤ x → x < 32 → 0 ≤ zup s 1 0 (s 1 0 + 1) 20 x ∧ zup s 1 0 (s 1 0 + 1) 20 x ≤ 300000) ∧ ∀ v, 0 ≤ v → v < 4 → 0 ≤ zup s 1 0 (s 1 0 + 1) 24 v := by
  have wD := hW.2.2.2.1
  refine ⟨fun v v0 v1 => ⟨(wD.2.2 v v0 v1).2.1, (wD.2.2 v v0 v1).2.2.1⟩, fun x x0 x1 => ?_, fun v v0 v1 => (wD.2.2 v v0 v1).2.2.2.1.1⟩
  have a := wD.2.1 x x0 x1
  have b := wD.1
  show 0 ≤ s 20 x ∧ s 20 x ≤ 300000
  omega
/-- a day, the class -/
theorem zc73_19 {h : zH} {s : zS} {x c i : Int} {n : Nat} (hC : zCl h s) (hW : zWf s) (hd : s 1 0 < 20000) (hx : i < x) (x0 : 0 ≤ i) (x1 : x ≤ 200) : ∃ h', zm73_19 (n + 1) (some (12, 0)) (zE x) (zE c) (zE i) h = zm73_19 n (some (12, 0)) (zE x) (zE (c + zdyC s)) (zE (i + 1)) h' ∧ zCl h' (zdy3 s) ∧ zfrC h h' := by
  obtain ⟨W1, ⟨W2, k30, -⟩, ⟨W3, a30, -⟩, W4, -, -⟩ := zdy_W hW hd
  have xj := zdx_j hW
  have e58 : zdx (zup s 1 0 (s 1 0 + 1)) 4 58 = s 58 := xj 58 (by decide) (by decide)
  obtain ⟨d1, d2, d3⟩ := zday hW
  have cs : zCs h s := hC.2.1
  have C0 := zw_12_11 (x := s 1 0 + 1) hC
  obtain ⟨h1, e1, C1, F1⟩ := zc73_30 (x1 := zE x) (x2 := zE c) (x3 := zE i) (k := zm73_40 (zm73_19 n)) C0 hW.1 hW.2.1 d1 d2 d3
  obtain ⟨h2, e2, C2, F2⟩ := zc74 C1 W1
  rw [e58] at C2
  have C2 : zCl h2 (zdy1 s) := C2
  obtain ⟨h3, e3, C3, F3⟩ := zc76 (p := 1) C2 W2 (Or.inr rfl)
  rw [k30] at e3 C3
  have C3 : zCl h3 (zdy2 s) := C3
  obtain ⟨h4, e4, C4, F4⟩ := zc76 (p := 0) C3 W3 (Or.inl rfl)
  rw [a30] at e4 C4
  refine ⟨h4, ?_, C4, ((zfrC_i (by unfold zpc1; decide)).tr ((F1.tr F2).tr (F3.tr F4)))⟩
  rw [zm73_19, if_neg (by rw [zE_le (by omega) (by omega) (by omega) (by omega)]; omega), zo_12, zCs11 cs, zE_1, zE_add, zlet_s, zE_0, e1, zm73_40, zo_12, e2, zb_s, zE_1, e3, zb_s, zE_add, zlet_s, zE_0, e4, zb_s, zE_add, zlet_s, zE_add, zlet_s, Int.add_assoc]
  rfl
