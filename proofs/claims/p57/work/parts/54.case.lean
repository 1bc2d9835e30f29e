set_option maxRecDepth 16384
/-! The law's calls: what each asks of the class's method and the model's (printed by wip/whole/gen/cases.py). -/
def zCct {τ : Type} (h : zH) (s' : zS) (r : zRs τ) (o : τ ⊕ Nat) : Prop := ∃ h1, r = some (o, h1) ∧ zCl h1 s' ∧ zKp (fun k => ¬ zpc1 k) h h1 ∧ zce h1 ≤ zce h + 40 ∧ zso h1 ≤ zso h + 5000
theorem zl_sl {h : zH} {k i j : Nat} {v : Int64} : zl (zsl h k i j v) k i j = v := if_pos ⟨rfl, rfl, rfl⟩
section ZCASE
variable {α : Type}
theorem zbH_s {hd : List (Nat × Nat × Nat × Nat)} {pc : Nat} {v : α} {h : zH} {f : α → zH → zRs Int32} : zbH hd pc (some (.inl v, h)) f = f v h := rfl
theorem zbH_x {hd : List (Nat × Nat × Nat × Nat)} {pc E c : Nat} {h : zH} {f : α → zH → zRs Int32} (hc : zhnd hd pc E = some c) : zbH hd pc (some (.inr E, h)) f = some (.inl (nI c), h) := by
  show (match zhnd hd pc E with | some c => some ((.inl (nI c) : Int32 ⊕ Nat), h) | none => none) = _
  rw [hc]
theorem zscr_s {L : Nat} {xs : Nat → Int32} {h : zH} {i j : Int} {x : Int32} {g : Int32 → Option α} (hS : zSc L xs h) (hL : L ≤ 5120) (hj : x = zE j) (h0 : 0 ≤ i + j) (h1 : i + j < L) : zri (some (40, 0)) (zE i + x) h g = g (xs (i + j).toNat) := by
  rw [hj, zE_add]
  exact zri_s rfl rfl hS.2.2.1 h0 h1 (by omega) (hS.2.2.2 (i + j).toNat (by omega))
theorem lg_cmp_e (x : Int64) : lg_cmp x x = 0 := by
  unfold lg_cmp
  simp
end ZCASE
theorem zSc_1 {L : Nat} {xs : Nat → Int32} {h h1 : zH} (hS : zSc L xs h) (k1 : zKp (fun k => ¬ zpc1 k) h h1) : zSc L xs h1 := hS.kp fun k hk => ⟨(k1 k (by unfold zpc1; omega)).2.1, (k1 k (by unfold zpc1; omega)).2.2.1⟩
theorem zSc_2 {L : Nat} {xs : Nat → Int32} {h h1 : zH} (hS : zSc L xs h) (k1 : zKp (fun k => ¬ zpm1 k) h h1) : zSc L xs h1 := hS.kp fun k hk => ⟨(k1 k (by unfold zpm1; omega)).2.1, (k1 k (by unfold zpm1; omega)).2.2.1⟩
