set_option maxRecDepth 16384
/-! The start: the model (printed by wip/whole/gen/mstart.py). -/
def zfs (h : zH) (e : Nat × Nat × Nat) : zH := zsr (znw h e.2.1 e.2.2 e.2.2) 13 0 e.1 (some (e.2.1, 0))
def zfold (l : List (Nat × Nat × Nat)) (h : zH) : zH := l.foldl zfs h
theorem zfs_c {h : zH} {j k n k' : Nat} : zct (zfs h (j, k, n)) k' = if k' = k then zct h k + 1 else zct h k' := rfl
theorem zal_step {N : Int32} {h : zH} {j k n : Nat} {F : zH → zRs Unit} (hN : ¬ (N < 0 ∨ 100000 < N.toNatClampNeg)) (hn : N.toNatClampNeg = n) (hc : zct h k = 0) : (if N < 0 ∨ 100000 < N.toNatClampNeg then none else zlet (znw h k N.toNatClampNeg N.toNatClampNeg) fun h' => zlet (zsr h' 13 0 j (some (k, zct h k))) F) = F (zfs h (j, k, n)) := by
  rw [if_neg hN, zlet_s, zlet_s, hn, hc]
  rfl
/-- rows that stand for themselves -/
theorem zfold_p : ∀ (l : List (Nat × Nat × Nat)) (h : zH), (∀ e ∈ l, zct h e.2.1 = 0 ∧ 100 ≤ e.2.1) → l.Pairwise (fun a b => a.2.1 ≠ b.2.1 ∧ a.1 ≠ b.1) →
    (∀ e ∈ l, zr (zfold l h) 13 0 e.1 = some (e.2.1, 0) ∧ zln (zfold l h) e.2.1 0 = e.2.2 ∧ ∀ x, zi (zfold l h) e.2.1 0 x = 0) ∧ (∀ j, (∀ e ∈ l, j ≠ e.1) → zr (zfold l h) 13 0 j = zr h 13 0 j) ∧ zi (zfold l h) 13 = zi h 13 ∧ zKp (fun k => k ≠ 13 ∧ ∀ e ∈ l, k ≠ e.2.1) h (zfold l h) ∧ zce (zfold l h) = zce h + l.length ∧ zso (zfold l h) = zso h + (l.map (·.2.2)).sum
  | [], h, _, _ => ⟨fun e he => (List.not_mem_nil he).elim, fun _ _ => rfl, rfl, zKp.rf, rfl, rfl⟩
  | e :: l, h, hc, hp => by
    obtain ⟨hp1, hp2⟩ := List.pairwise_cons.mp hp
    have hc0 := hc e List.mem_cons_self
    have hs : ∀ k, zct (zfs h e) k = if k = e.2.1 then zct h e.2.1 + 1 else zct h k := fun k => rfl
    have ih := zfold_p l (zfs h e) (fun e' he' => by
      obtain ⟨a1, a2⟩ := hc e' (List.mem_cons_of_mem _ he')
      refine ⟨?_, a2⟩
      rw [hs, if_neg (fun z => (hp1 e' he').1 z.symm)]
      exact a1) hp2
    have ef : zfold (e :: l) h = zfold l (zfs h e) := rfl
    rw [ef]
    obtain ⟨i1, i2, i3, i4, i5, i6⟩ := ih
    have n13 : e.2.1 ≠ 13 := by omega
    refine ⟨fun e' he' => ?_, fun j hj => ?_, ?_, ?_, ?_, ?_⟩
    · rcases List.mem_cons.mp he' with rfl | he'
      · obtain ⟨g1, g2, g3, g4, -⟩ := i4 e'.2.1 ⟨n13, fun e2 he2 => (hp1 e2 he2).1⟩
        refine ⟨?_, ?_, fun x => ?_⟩
        · rw [i2 e'.1 (fun e2 he2 => (hp1 e2 he2).2)]
          exact if_pos ⟨rfl, rfl, rfl⟩
        · rw [g2]
          exact if_pos ⟨rfl, hc0.1.symm⟩
        · rw [g3]
          exact if_pos ⟨rfl, hc0.1.symm⟩
      · exact i1 e' he'
    · rw [i2 j (fun e2 he2 => hj e2 (List.mem_cons_of_mem _ he2))]
      have ne := hj e List.mem_cons_self
      show (if 13 = 13 ∧ 0 = 0 ∧ j = e.1 then some (e.2.1, 0) else zr (znw h e.2.1 e.2.2 e.2.2) 13 0 j) = _
      rw [if_neg (fun z => ne z.2.2), lkn_r, if_neg (fun z => n13 z.1.symm)]
    · rw [i3]
      funext i j
      show zi (znw h e.2.1 e.2.2 e.2.2) 13 i j = _
      rw [lkn_i, if_neg (fun z => n13 z.1.symm)]
    · refine zKp.tr (h1 := zfs h e) ?_ (i4.mn fun k hk => ⟨hk.1, fun e2 he2 => hk.2 e2 (List.mem_cons_of_mem _ he2)⟩)
      exact (zKp_nw (fun z => z.2 e List.mem_cons_self rfl)).tr (zKp_r (fun z => z.1 rfl))
    · rw [i5]
      show zce h + 1 + l.length = zce h + (l.length + 1)
      omega
    · rw [i6, List.map_cons, List.sum_cons]
      show zso h + e.2.2 + _ = _
      omega
theorem zfs_cc {h : zH} {l : List Nat} {j k n : Nat} (c : ∀ x, 100 ≤ x → x ∉ l → zct h x = 0) : ∀ x, 100 ≤ x → x ∉ (k :: l) → zct (zfs h (j, k, n)) x = 0 := fun x a b => by
  rw [zfs_c, if_neg (fun z => b (by rw [z]; exact List.mem_cons_self))]
  exact c x a (fun z => b (List.mem_cons_of_mem _ z))
