set_option maxRecDepth 16384
/-! Lists in the small machine's heap. -/
theorem zent_list {dA : Nat → ClassId} {df : Nat} {ρ : Nat → Nat → Nat} {h : zH} {k i : Nat} (hk : k < 1000) (h9 : ztg k = 9) :
    zent dA df ρ h k i = .inr (13, [.int (nI (zln h k i)), (if zi h k i 1 = 0 then .null else if zln h k i = 0 then .ref df else .ref (ρ (k + 1000) i)), .int (nI (zln h k i))]) := by
  unfold zent
  rw [if_neg (by omega), h9]
  rfl
theorem zent_back {dA : Nat → ClassId} {df : Nat} {ρ : Nat → Nat → Nat} {h : zH} {k i : Nat} :
    zent dA df ρ h (k + 1000) i = .inl (dA 8, zAr (zcap (zln h k i)) (fun j => if j < zln h k i then (zr h k i j).map (fun q => ρ q.1 q.2) else none)) := by
  unfold zent
  rw [if_pos (by omega), Nat.add_sub_cancel]
theorem zex_back {h : zH} {k i : Nat} : zex h (k + 1000) i ↔ (ztg k = 9 ∧ i < zct h k ∧ 0 < zln h k i) := by
  unfold zex
  rw [if_pos (by omega), Nat.add_sub_cancel]
theorem zk9 {k : Nat} (h9 : ztg k = 9) : k < 1000 := by
  rcases Nat.lt_or_ge k 1000 with h | h
  · exact h
  · exfalso
    unfold ztg at h9
    rw [Nat.ble_eq_true_of_le (show 100 ≤ k by omega), Nat.ble_eq_true_of_le (show 200 ≤ k by omega), Nat.ble_eq_true_of_le (show 300 ≤ k by omega)] at h9
    cases h9
/-- a list is made ready -/
theorem zRel_linit {G : zG} {h : zH} {ρ pos : Nat → Nat → Nat} {ws : va_W} {H1 : Heap} {k i : Nat} (hR : zRelw G h ρ pos ws) (hx : zex h k i) (h9 : ztg k = 9) (hl : zln h k i = 0)
    (hP : va_P G.1 zcl (ws.set (pos k i) (ρ k i, .inr (13, [.int 0, .ref G.2.2.1, .int (nI (zln h k i))]))) H1) (hD : va_D G.2.2.2.1 (ws.set (pos k i) (ρ k i, .inr (13, [.int 0, .ref G.2.2.1, .int (nI (zln h k i))])))) : zRel G (zsi h k i 1 1) H1 ρ := by
  have hk := zk9 h9
  have e0 : zent G.2.1 G.2.2.1 ρ (zsi h k i 1 1) k i = .inr (13, [.int 0, .ref G.2.2.1, .int (nI (zln h k i))]) := by
    rw [zent_list hk h9]
    have e1 : zln (zsi h k i 1 1) k i = 0 := hl
    have e2 : zi (zsi h k i 1 1) k i 1 = 1 := zu_self
    rw [e1, e2, if_neg (by decide), if_pos rfl, hl]
    rfl
  rw [← e0] at hP hD
  refine zRelw.upd hR hx hP hD (zse_i h k i 1 1).ex (fun k' i' e hx' => ?_) (fun k' i' j q hq => ?_) (by rw [h9]; decide) (fun k' i' e => ⟨rfl, ((zse_i h k i 1 1).2.2.2.2 k' i' e).1⟩)
  · obtain ⟨e1, e2, e3, e4⟩ := (zse_i h k i 1 1).2.2.2.2 k' i' e
    exact zent_congr rfl e1 e2 e3 e4 fun _ => rfl
  · rw [(zse_i h k i 1 1).ok]
    exact hR.2.2.1 _ _ _ _ hq
/-- one more in a list -/
def zadd (h : zH) (k i : Nat) (v : Nat × Nat) : zH := zsn (zsr h k i (zln h k i) (some v)) k i (zln h k i + 1)
theorem zadd_n {h : zH} {k i : Nat} {v : Nat × Nat} : zln (zadd h k i v) k i = zln h k i + 1 := if_pos ⟨rfl, rfl⟩
theorem zadd_nn {h : zH} {k i k' i' : Nat} {v : Nat × Nat} (e : ¬ (k' = k ∧ i' = i)) : zln (zadd h k i v) k' i' = zln h k' i' := if_neg e
theorem zadd_r {h : zH} {k i k' i' : Nat} {v : Nat × Nat} (e : ¬ (k' = k ∧ i' = i)) : zr (zadd h k i v) k' i' = zr h k' i' := zu_ne e
theorem zadd_rj {h : zH} {k i j : Nat} {v : Nat × Nat} (e : j ≠ zln h k i) : zr (zadd h k i v) k i j = zr h k i j := zu_other e
theorem zadd_rn {h : zH} {k i : Nat} {v : Nat × Nat} : zr (zadd h k i v) k i (zln h k i) = some v := zu_self
theorem zadd_f {ρ : Nat → Nat → Nat} {h : zH} {k i a : Nat} {v : Nat × Nat} (hv : ρ v.1 v.2 = a) :
    (fun j => if j < zln (zadd h k i v) k i then (zr (zadd h k i v) k i j).map (fun q => ρ q.1 q.2) else none) = va_up (fun j => if j < zln h k i then (zr h k i j).map (fun q => ρ q.1 q.2) else none) (zln h k i) (some a) := by
  funext j
  rw [zadd_n]
  unfold va_up
  by_cases e : j = zln h k i
  · subst e
    rw [if_pos (by omega), if_pos rfl, zadd_rn, Option.map_some, hv]
  · rw [if_neg e, zadd_rj e]
    show _ = (if j < zln h k i then (zr h k i j).map (fun q => ρ q.1 q.2) else none)
    by_cases h1 : j < zln h k i
    · rw [if_pos h1, if_pos (by omega)]
    · rw [if_neg h1, if_neg (by omega)]
theorem zent_addo {dA : Nat → ClassId} {df : Nat} {ρ ρ' : Nat → Nat → Nat} {h : zH} {k i k' i' : Nat} {v : Nat × Nat} (h9 : ztg k = 9) (e : ¬ (k' = k ∧ i' = i)) (e2 : ¬ (k' = k + 1000 ∧ i' = i)) (hx : zex h k' i')
    (hρ : ∀ k' i', ¬ (k' = k + 1000 ∧ i' = i) → ρ' k' i' = ρ k' i') (hval : ∀ k i j q, zr h k i j = some q → zok h q) : zent dA df ρ' (zadd h k i v) k' i' = zent dA df ρ h k' i' := by
  have hm : ∀ j, (zr h k' i' j).map (fun q => ρ' q.1 q.2) = (zr h k' i' j).map (fun q => ρ q.1 q.2) := by
    intro j
    cases hz : zr h k' i' j with
    | none => rfl
    | some q => exact congrArg some (hρ _ _ (fun z => by have := (hval _ _ _ _ hz).1; omega))
  by_cases hk : 1000 ≤ k'
  · obtain ⟨kk, rfl⟩ : ∃ kk, k' = kk + 1000 := ⟨k' - 1000, by omega⟩
    have e3 : ¬ (kk = k ∧ i' = i) := fun z => e2 ⟨by rw [z.1], z.2⟩
    rw [zent_back, zent_back, zadd_nn e3, zadd_r e3]
    have hm2 : ∀ j, (zr h kk i' j).map (fun q => ρ' q.1 q.2) = (zr h kk i' j).map (fun q => ρ q.1 q.2) := by
      intro j
      cases hz : zr h kk i' j with
      | none => rfl
      | some q => exact congrArg some (hρ _ _ (fun z => by have := (hval _ _ _ _ hz).1; omega))
    simp only [hm2]
  · have hk : k' < 1000 := by omega
    have hnn : zln (zadd h k i v) k' i' = zln h k' i' := zadd_nn e
    have hrr : zr (zadd h k i v) k' i' = zr h k' i' := zadd_r e
    rcases ztg_vals k' with h5 | h9' | h10 | h99
    · by_cases h0 : ztg k' = 0
      · rw [zent_obj hk h0, zent_obj hk h0]
        have ho : zobj ρ' (zadd h k i v) k' i' = zobj ρ h k' i' := by
          unfold zobj
          refine List.map_congr_left fun j _ => ?_
          unfold zfv
          split
          · rfl
          · rfl
          · rfl
          · rw [hrr]
            cases hz : zr h k' i' j with
            | none => rfl
            | some q => exact congrArg Value.ref (hρ _ _ (fun z => by have := (hval _ _ _ _ hz).1; omega))
        rw [ho]
      · unfold zent
        have h1k : ¬ 1000 ≤ k' := by omega
        simp only [if_neg h1k]
        generalize ztg k' = t at h5 h0
        match t, h5, h0 with
        | 1, _, _ => rw [hnn]; rfl
        | 2, _, _ => rw [hnn]; rfl
        | 3, _, _ => rw [hnn]; rfl
        | 4, _, _ => rw [hnn]; rfl
        | 5, _, _ =>
          rw [hnn, hrr]
          simp only [hm]
    · rw [zent_list hk h9', zent_list hk h9', hnn]
      have e9 : zi (zadd h k i v) k' i' 1 = zi h k' i' 1 := rfl
      rw [e9, hρ (k' + 1000) i' (fun z => e ⟨by omega, z.2⟩)]
    · exfalso
      have := ((zex_lt hk).mp hx).1
      exact this h10
    · exfalso
      have := ((zex_lt hk).mp hx).2.1
      exact this h99
theorem zadd_ex1 {h : zH} {k i : Nat} {v : Nat × Nat} (k' i' : Nat) : zex (zadd h k i v) k' i' ↔ (zex h k' i' ∨ (k' = k + 1000 ∧ i' = i ∧ ztg k = 9 ∧ i < zct h k)) := by
  by_cases hk : 1000 ≤ k'
  · obtain ⟨kk, rfl⟩ : ∃ kk, k' = kk + 1000 := ⟨k' - 1000, by omega⟩
    rw [zex_back, zex_back]
    have ec : zct (zadd h k i v) kk = zct h kk := rfl
    rw [ec]
    by_cases e : kk = k ∧ i' = i
    · obtain ⟨rfl, rfl⟩ := e
      rw [zadd_n]
      constructor
      · rintro ⟨a, b, -⟩
        exact Or.inr ⟨rfl, rfl, a, b⟩
      · rintro (⟨a, b, -⟩ | ⟨-, -, a, b⟩)
        · exact ⟨a, b, Nat.succ_pos _⟩
        · exact ⟨a, b, Nat.succ_pos _⟩
    · rw [zadd_nn e]
      constructor
      · exact Or.inl
      · rintro (a | ⟨a, b, -⟩)
        · exact a
        · exact absurd ⟨by omega, b⟩ e
  · have hk : k' < 1000 := by omega
    rw [zex_lt hk, zex_lt hk]
    have ec : zct (zadd h k i v) k' = zct h k' := rfl
    rw [ec]
    constructor
    · exact Or.inl
    · rintro (a | ⟨a, -⟩)
      · exact a
      · omega
theorem zadd_val {h : zH} {k i : Nat} {v : Nat × Nat} (hval : ∀ k i j q, zr h k i j = some q → zok h q) (hv : zok h v) (k' i' j : Nat) (q : Nat × Nat) (hq : zr (zadd h k i v) k' i' j = some q) : zok (zadd h k i v) q := by
  have hok : ∀ q, zok h q → zok (zadd h k i v) q := fun q hq => ⟨hq.1, hq.2.elim (fun z => Or.inl ((zadd_ex1 _ _).mpr (Or.inl z))) Or.inr⟩
  refine hok _ ?_
  by_cases e : k' = k ∧ i' = i
  · obtain ⟨rfl, rfl⟩ := e
    by_cases ej : j = zln h k' i'
    · subst ej
      rw [zadd_rn] at hq
      cases hq
      exact hv
    · rw [zadd_rj ej] at hq
      exact hval _ _ _ _ hq
  · rw [zadd_r e] at hq
    exact hval _ _ _ _ hq
/-- .. into its array -/
theorem zRel_addR {G : zG} {h : zH} {ρ pos : Nat → Nat → Nat} {ws : va_W} {H1 : Heap} {k i : Nat} {v : Nat × Nat} {wf : va_W} (hR : zRelw G h ρ pos ws) (hx : zex h k i) (h9 : ztg k = 9) (h1 : zi h k i 1 = 1) (hn : 0 < zln h k i) (hcap : zcap (zln h k i + 1) = zcap (zln h k i)) (hv : zok h v)
    (hwf : wf = (ws.set (pos (k + 1000) i) (ρ (k + 1000) i, .inl (G.2.1 8, zAr (zcap (zln h k i)) (va_up (fun j => if j < zln h k i then (zr h k i j).map (fun q => ρ q.1 q.2) else none) (zln h k i) (some (ρ v.1 v.2)))))).set (pos k i) (ρ k i, .inr (13, [.int (nI (zln h k i + 1)), .ref (ρ (k + 1000) i), .int (nI (zln h k i + 1))])))
    (hP : va_P G.1 zcl wf H1) (hD : va_D G.2.2.2.1 wf) : zRel G (zadd h k i v) H1 ρ := by
  obtain ⟨r1, r2, r3, r4, r5, r6⟩ := hR
  have hk := zk9 h9
  have hi : i < zct h k := ((zex_lt hk).mp hx).2.2
  have hxb : zex h (k + 1000) i := by
    rw [zex_back]
    exact ⟨h9, hi, hn⟩
  have hl1 := (List.getElem?_eq_some_iff.mp (r1 _ _ hx)).1
  have hl2 := (List.getElem?_eq_some_iff.mp (r1 _ _ hxb)).1
  have hex : ∀ k' i', zex (zadd h k i v) k' i' ↔ zex h k' i' := fun k' i' => by
    rw [zadd_ex1]
    constructor
    · rintro (a | ⟨rfl, rfl, -⟩)
      · exact a
      · exact hxb
    · exact Or.inl
  have hne : ¬ ((zSK : Nat) = k ∧ 0 = i) := by
    rintro ⟨e, -⟩
    rw [← e] at h9
    cases h9
  refine ⟨wf, pos, hP, hD, fun k' i' h' => ?_, fun k1 i1 k2 i2 a b c => r2 _ _ _ _ ((hex _ _).mp a) ((hex _ _).mp b) c, zadd_val r3 hv, r4, by rw [zadd_nn hne]; exact r5, r6⟩
  have h' := (hex _ _).mp h'
  rw [hwf]
  by_cases e : k' = k ∧ i' = i
  · obtain ⟨rfl, rfl⟩ := e
    rw [List.getElem?_set_self (by rw [List.length_set]; exact hl1), zent_list hk h9, zadd_n]
    have e1 : zi (zadd h k' i' v) k' i' 1 = 1 := h1
    rw [e1, if_neg (by decide), if_neg (by omega)]
  · rw [List.getElem?_set_ne (fun z => e ((r2 _ _ _ _ hx h' z).imp Eq.symm Eq.symm))]
    by_cases e2 : k' = k + 1000 ∧ i' = i
    · obtain ⟨rfl, rfl⟩ := e2
      rw [List.getElem?_set_self hl2, zent_back, zadd_f rfl, zadd_n, hcap]
    · rw [List.getElem?_set_ne (fun z => e2 ((r2 _ _ _ _ hxb h' z).imp Eq.symm Eq.symm)), r1 _ _ h', zent_addo h9 e e2 h' (fun _ _ _ => rfl) r3]
/-- .. into a new array -/
theorem zRel_addG {G : zG} {h : zH} {ρ pos : Nat → Nat → Nat} {ws : va_W} {H1 : Heap} {k i q : Nat} {v : Nat × Nat} {wf : va_W} (hR : zRelw G h ρ pos ws) (hx : zex h k i) (h9 : ztg k = 9) (h1 : zi h k i 1 = 1) (hv : zok h v)
    (hwf : wf = ws.set (pos k i) (ρ k i, .inr (13, [.int (nI (zln h k i + 1)), .ref q, .int (nI (zln h k i + 1))])) ++ [((q, .inl (G.2.1 8, zAr (zcap (zln h k i + 1)) (va_up (fun j => if j < zln h k i then (zr h k i j).map (fun q => ρ q.1 q.2) else none) (zln h k i) (some (ρ v.1 v.2))))) : Nat × va_E)])
    (hP : va_P G.1 zcl wf H1) (hD : va_D G.2.2.2.1 wf) : zag h ρ (z2 ρ (k + 1000) i q) ∧ zRel G (zadd h k i v) H1 (z2 ρ (k + 1000) i q) := by
  obtain ⟨r1, r2, r3, r4, r5, r6⟩ := hR
  have hk := zk9 h9
  have hi : i < zct h k := ((zex_lt hk).mp hx).2.2
  have hl1 := (List.getElem?_eq_some_iff.mp (r1 _ _ hx)).1
  have hρ : ∀ k' i', ¬ (k' = k + 1000 ∧ i' = i) → z2 ρ (k + 1000) i q k' i' = ρ k' i' := fun k' i' e => z2_ne e
  have hne : ¬ ((zSK : Nat) = k ∧ 0 = i) := by
    rintro ⟨e, -⟩
    rw [← e] at h9
    cases h9
  have hvr : z2 ρ (k + 1000) i q v.1 v.2 = ρ v.1 v.2 := hρ _ _ (fun z => by have := hv.1; omega)
  have hlen : ∀ k' i', zex h k' i' → pos k' i' < ws.length := fun k' i' h' => (List.getElem?_eq_some_iff.mp (r1 k' i' h')).1
  refine ⟨fun k' i' hk' _ => hρ _ _ (fun z => by omega), wf, z2 pos (k + 1000) i ws.length, hP, hD, fun k' i' h' => ?_, fun k1 i1 k2 i2 a b c => ?_, fun k' i' j q' hq' => ?_, ?_, by show zln (zadd h k i v) zSK 0 = _; rw [zadd_nn hne]; exact r5, r6⟩
  · show wf[z2 pos (k + 1000) i ws.length k' i']? = some (z2 ρ (k + 1000) i q k' i', zent G.2.1 G.2.2.1 (z2 ρ (k + 1000) i q) (zadd h k i v) k' i')
    rw [hwf]
    by_cases e2 : k' = k + 1000 ∧ i' = i
    · obtain ⟨rfl, rfl⟩ := e2
      have hz := zget_last (ws.set (pos k i') (ρ k i', .inr (13, [.int (nI (zln h k i' + 1)), .ref q, .int (nI (zln h k i' + 1))]))) (((q, .inl (G.2.1 8, zAr (zcap (zln h k i' + 1)) (va_up (fun j => if j < zln h k i' then (zr h k i' j).map (fun q => ρ q.1 q.2) else none) (zln h k i') (some (ρ v.1 v.2))))) : Nat × va_E))
      rw [List.length_set] at hz
      rw [z2_self, z2_self, hz, zent_back, zadd_f hvr, zadd_n]
      have hm : ∀ j, (zr h k i' j).map (fun p => z2 ρ (k + 1000) i' q p.1 p.2) = (zr h k i' j).map (fun p => ρ p.1 p.2) := by
        intro j
        cases hz : zr h k i' j with
        | none => rfl
        | some p => exact congrArg some (hρ _ _ (fun z => by have := (r3 _ _ _ _ hz).1; omega))
      simp only [hm]
    · have h' : zex h k' i' := by
        rcases (zadd_ex1 _ _).mp h' with a | ⟨a, b, -⟩
        · exact a
        · exact absurd ⟨a, b⟩ e2
      rw [z2_ne e2, z2_ne e2, List.getElem?_append_left (by rw [List.length_set]; exact hlen _ _ h')]
      by_cases e : k' = k ∧ i' = i
      · obtain ⟨rfl, rfl⟩ := e
        rw [List.getElem?_set_self hl1, zent_list hk h9, zadd_n]
        have e1 : zi (zadd h k' i' v) k' i' 1 = 1 := h1
        rw [e1, if_neg (by decide), if_neg (by omega), z2_self]
      · rw [List.getElem?_set_ne (fun z => e ((r2 _ _ _ _ hx h' z).imp Eq.symm Eq.symm)), r1 _ _ h', zent_addo h9 e e2 h' hρ r3]
  · have up : ∀ k' i', zex (zadd h k i v) k' i' → ¬ (k' = k + 1000 ∧ i' = i) → zex h k' i' := by
      intro k' i' h' e2
      rcases (zadd_ex1 _ _).mp h' with a | ⟨a, b, -⟩
      · exact a
      · exact absurd ⟨a, b⟩ e2
    by_cases ea : k1 = k + 1000 ∧ i1 = i <;> by_cases eb : k2 = k + 1000 ∧ i2 = i
    · exact ⟨ea.1.trans eb.1.symm, ea.2.trans eb.2.symm⟩
    · rw [ea.1, ea.2, z2_self, z2_ne eb] at c
      have := hlen _ _ (up _ _ b eb)
      omega
    · rw [eb.1, eb.2, z2_self, z2_ne ea] at c
      have := hlen _ _ (up _ _ a ea)
      omega
    · rw [z2_ne ea, z2_ne eb] at c
      exact r2 _ _ _ _ (up _ _ a ea) (up _ _ b eb) c
  · exact zadd_val r3 hv k' i' j q' hq'
  · rw [hρ _ _ (fun z => by have : (40 : Nat) = k + 1000 := z.1; omega)]
    exact r4
theorem zex_cg {h h' : zH} (a : zct h' = zct h) (b : zln h' = zln h) (k i : Nat) : zex h' k i = zex h k i := by
  unfold zex
  rw [a, b]
theorem zent_cg {dA : Nat → ClassId} {df : Nat} {ρ : Nat → Nat → Nat} {h h' : zH} (b : zln h' = zln h) (e1 : zi h' = zi h) (e2 : zr h' = zr h) (e3 : zd h' = zd h) (e4 : zl h' = zl h) (k i : Nat) : zent dA df ρ h' k i = zent dA df ρ h k i := by
  have ho : zobj ρ h' k i = zobj ρ h k i := by
    unfold zobj zfv
    rw [e1, e2, e3]
  unfold zent
  rw [b, e1, e2, e3, e4, ho]
theorem zRel_zro {G : zG} {h : zH} {ρ : Nat → Nat → Nat} {H1 : Heap} (c n : Nat) (h1 : zRel G h H1 ρ) : zRel G (zro h c n) H1 ρ := by
  obtain ⟨ws, pos, hP, hD, r1, r2, r3, r4⟩ := h1
  refine ⟨ws, pos, hP, hD, fun k i hx => ?_, fun k i k' i' hx hx' => ?_, fun k i j q hq => ?_, r4⟩
  · rw [zex_cg (h := h) (h' := zro h c n) rfl rfl] at hx
    rw [zent_cg (h := h) (h' := zro h c n) rfl rfl rfl rfl rfl]
    exact r1 k i hx
  · rw [zex_cg (h := h) (h' := zro h c n) rfl rfl] at hx hx'
    exact r2 k i k' i' hx hx'
  · have := r3 k i j q hq
    unfold zok at this ⊢
    rw [zex_cg (h := h) (h' := zro h c n) rfl rfl]
    exact this
theorem zok_add {h : zH} {k i : Nat} {v q : Nat × Nat} (hq : zok h q) : zok (zadd h k i v) q := ⟨hq.1, hq.2.elim (fun z => Or.inl ((zadd_ex1 _ _).mpr (Or.inl z))) Or.inr⟩
theorem zok_addc {h : zH} {k i c n : Nat} {v q : Nat × Nat} (hq : zok h q) : zok (zro (zadd h k i v) c n) q := by
  have := zok_add (k := k) (i := i) (v := v) hq
  unfold zok at this ⊢
  rw [zex_cg (h := zadd h k i v) (h' := zro (zadd h k i v) c n) rfl rfl]
  exact this
