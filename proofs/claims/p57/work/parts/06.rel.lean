/-! What the small machine's heap says of the true one. -/
abbrev zcl : List vw_C := [(RX0, TX0, 12), (RX0, TX0, 12), (RX2, TX2, 5), (RX0, TX0, 12), (RX4, TX4, 5), (RX5, TX5, 11), (RX0, TX0, 12), (RX7, TX7, 4), (RX8, TX8, 8), (RX9, TX9, 7), (RX0, TX0, 12), (RX11, TX11, 18), (RX0, TX0, 12), (RJx4a65c, TJx4a65c, 3)]
/-- the good ones among the tables' words -/
def zTs : List Cond := lw_tbl.filter goodWord
theorem zTs_of {w : Cond} (h : w ∈ lw_tbl) (g : goodWord w = true) : w ∈ zTs := List.mem_filter.mpr ⟨h, g⟩
theorem zTs_good : GoodIn zTs zTs := fun w h => ⟨h, good_of_word (List.mem_filter.mp h).2⟩
def ztix (k : Nat) : Nat := match ztg k with
  | 1 => 0
  | 2 => 1
  | 3 => 2
  | 4 => 3
  | 5 => (match zkc k with
    | 0 => 4
    | 9 => 5
    | 8 => 6
    | 2 => 7
    | _ => 99)
  | _ => 99
def ztyL : List FieldType := [.int, .boolean, .int, .int, .object RX0, .object RX9, .object RX8, .object RX2, .object "java/lang/Object"]
def ztys (dA : Nat → ClassId) : List (ClassId × FieldType) := [(dA 0, .int), (dA 1, .boolean), (dA 2, .int), (dA 3, .int), (dA 4, .object RX0), (dA 5, .object RX9), (dA 6, .object RX8), (dA 7, .object RX2), (dA 8, .object "java/lang/Object")]
def zfv (ρ : Nat → Nat → Nat) (h : zH) (t k i j : Nat) : Value := match t with
  | 0 => .int (zi h k i j)
  | 1 => .int (zi h k i j)
  | 2 => .double (zd h k i j)
  | _ => ztv ρ (zrv (zr h k i j))
def zobj (ρ : Nat → Nat → Nat) (h : zH) (k i : Nat) : List Value := (List.range (zfN[zkc k]?.getD 0)).map fun j => zfv ρ h (zft (zkc k) j) k i j
/-- the cell of a name; k + 1000: the array behind a list of the kind k -/
def zent (dA : Nat → ClassId) (df : Nat) (ρ : Nat → Nat → Nat) (h : zH) (k i : Nat) : va_E := if 1000 ≤ k then .inl (dA 8, (zcap (zln h (k - 1000) i), .inr (.inr (.inr (.inr (fun j => if j < zln h (k - 1000) i then (zr h (k - 1000) i j).map (fun q => ρ q.1 q.2) else none)))))) else
  match ztg k with
  | 0 => .inr (zkc k, zobj ρ h k i)
  | 1 => .inl (dA 0, (zln h k i, .inl (zi h k i)))
  | 2 => .inl (dA 1, (zln h k i, .inl (zi h k i)))
  | 3 => .inl (dA 2, (zln h k i, .inr (.inl (zl h k i))))
  | 4 => .inl (dA 3, (zln h k i, .inr (.inr (.inr (.inl (zd h k i))))))
  | 5 => .inl (dA (ztix k), (zln h k i, .inr (.inr (.inr (.inr (fun j => (zr h k i j).map (fun q => ρ q.1 q.2)))))))
  | _ => .inr (13, [.int (nI (zln h k i)), (if zi h k i 1 = 0 then .null else if zln h k i = 0 then .ref df else .ref (ρ (k + 1000) i)), .int (nI (zln h k i))])
/-- a name is somebody's -/
def zex (h : zH) (k i : Nat) : Prop := if 1000 ≤ k then ztg (k - 1000) = 9 ∧ i < zct h (k - 1000) ∧ 0 < zln h (k - 1000) i else ztg k ≠ 10 ∧ ztg k ≠ 99 ∧ i < zct h k
def zok (h : zH) (q : Nat × Nat) : Prop := q.1 < 1000 ∧ (zex h q.1 q.2 ∨ q = (zSK, 0))
def zokv (h : zH) (v : zV) : Prop := match v with
  | .inr q => zok h q
  | .inl (.ref _) => False
  | .inl (.retAddr _) => False
  | _ => True
/-- all that is fixed: the classes' numbers, the arrays', the address of the empty array, the cells that are ours, the script -/
abbrev zG : Type := va_G × (Nat → ClassId) × Nat × (Nat → Prop) × (Nat × Nat × (Nat → Int32))
def zRelw (G : zG) (h : zH) (ρ pos : Nat → Nat → Nat) (ws : va_W) : Prop :=
  (∀ k i, zex h k i → ws[pos k i]? = some (ρ k i, zent G.2.1 G.2.2.1 ρ h k i)) ∧
  (∀ k i k' i', zex h k i → zex h k' i' → pos k i = pos k' i' → k = k' ∧ i = i') ∧
  (∀ k i j q, zr h k i j = some q → zok h q) ∧
  (ρ zSK 0 = G.2.2.2.2.1 ∧ zln h zSK 0 = G.2.2.2.2.2.1 ∧ ∀ j, j < G.2.2.2.2.2.1 → zi h zSK 0 j = G.2.2.2.2.2.2 j)
def zRel (G : zG) (h : zH) (H : Heap) (ρ : Nat → Nat → Nat) : Prop :=
  ∃ (ws : va_W) (pos : Nat → Nat → Nat), va_P G.1 zcl ws H ∧ va_D G.2.2.2.1 ws ∧ zRelw G h ρ pos ws
/-- what the tables say at a state -/
def zEnv (G : zG) (s : State) : Prop := va_K G.1 zcl (ztys G.2.1) s ∧ va_X G.2.2.2.2.1 G.2.2.2.2.2.1 G.2.2.2.2.2.2 s s.heap ∧ G.2.2.2.2.1 < s.heap.size ∧ ¬ G.2.2.2.1 G.2.2.2.2.1 ∧ (∀ q : Nat, s.heap.size ≤ q → G.2.2.2.1 q)
theorem zex_lt {h : zH} {k i : Nat} (hk : k < 1000) : zex h k i ↔ (ztg k ≠ 10 ∧ ztg k ≠ 99 ∧ i < zct h k) := by
  unfold zex
  rw [if_neg (by omega)]
/-- a name's cell is written, all others stay -/
theorem zRel.upd {G : zG} {h h' : zH} {ρ pos : Nat → Nat → Nat} {ws : va_W} {H1 : Heap} {k i : Nat} (hR : zRelw G h ρ pos ws) (hx : zex h k i)
    (hP : va_P G.1 zcl (ws.set (pos k i) (ρ k i, zent G.2.1 G.2.2.1 ρ h' k i)) H1) (hD : va_D G.2.2.2.1 (ws.set (pos k i) (ρ k i, zent G.2.1 G.2.2.1 ρ h' k i)))
    (he : ∀ k' i', zex h' k' i' ↔ zex h k' i') (hs : ∀ k' i', ¬ (k' = k ∧ i' = i) → zex h k' i' → zent G.2.1 G.2.2.1 ρ h' k' i' = zent G.2.1 G.2.2.1 ρ h k' i')
    (hr : ∀ k i j q, zr h' k i j = some q → zok h' q) (hk : ztg k ≠ 10) (hsc : ∀ k' i', ¬ (k' = k ∧ i' = i) → zln h' k' i' = zln h k' i' ∧ zi h' k' i' = zi h k' i') : zRel G h' H1 ρ := by
  obtain ⟨r1, r2, r3, r4, r5, r6⟩ := hR
  have hne : ¬ ((zSK : Nat) = k ∧ 0 = i) := by
    rintro ⟨e, -⟩
    exact hk (by rw [← e]; rfl)
  refine ⟨_, pos, hP, hD, fun k' i' h1 => ?_, fun k1 i1 k2 i2 h1 h2 h3 => r2 k1 i1 k2 i2 ((he _ _).mp h1) ((he _ _).mp h2) h3, hr, r4, by rw [(hsc _ _ hne).1]; exact r5, fun j hj => by rw [(hsc _ _ hne).2]; exact r6 j hj⟩
  have h1' := (he _ _).mp h1
  have hl := (List.getElem?_eq_some_iff.mp (r1 k i hx)).1
  by_cases e : k' = k ∧ i' = i
  · obtain ⟨rfl, rfl⟩ := e
    rw [List.getElem?_set_self hl]
  · rw [List.getElem?_set_ne (fun e2 => e ((r2 _ _ _ _ hx h1' e2).imp Eq.symm Eq.symm)), r1 _ _ h1', hs _ _ e h1']
theorem z_t0 : ∀ k, k < 12 → (TX0 k).1 = RX0 ∧ (zft 0 k = 0 → tyX0 k = .int) ∧ (zft 0 k = 1 → tyX0 k = .boolean) ∧ (zft 0 k = 2 → tyX0 k = .double) ∧ (zft 0 k = 3 → (∃ n, tyX0 k = .object n) ∨ ∃ n, tyX0 k = .array n) ∧ zft 0 k < 4 := by
  intro k hk
  have h : ∀ k, k < 12 → (decide ((TX0 k).1 = RX0) && (match zft 0 k, tyX0 k with | 0, .int => true | 1, .boolean => true | 2, .double => true | 3, .object _ => true | 3, .array _ => true | _, _ => false)) = true := by decide +kernel
  have h1 := h k hk
  rw [Bool.and_eq_true] at h1
  refine ⟨of_decide_eq_true h1.1, ?_⟩
  have h2 := h1.2
  revert h2
  generalize zft 0 k = a
  generalize tyX0 k = b
  intro h2
  split at h2 <;> simp_all
theorem z_t1 : ∀ k, k < 12 → (TX0 k).1 = RX0 ∧ (zft 1 k = 0 → tyX0 k = .int) ∧ (zft 1 k = 1 → tyX0 k = .boolean) ∧ (zft 1 k = 2 → tyX0 k = .double) ∧ (zft 1 k = 3 → (∃ n, tyX0 k = .object n) ∨ ∃ n, tyX0 k = .array n) ∧ zft 1 k < 4 := by
  intro k hk
  have h : ∀ k, k < 12 → (decide ((TX0 k).1 = RX0) && (match zft 1 k, tyX0 k with | 0, .int => true | 1, .boolean => true | 2, .double => true | 3, .object _ => true | 3, .array _ => true | _, _ => false)) = true := by decide +kernel
  have h1 := h k hk
  rw [Bool.and_eq_true] at h1
  refine ⟨of_decide_eq_true h1.1, ?_⟩
  have h2 := h1.2
  revert h2
  generalize zft 1 k = a
  generalize tyX0 k = b
  intro h2
  split at h2 <;> simp_all
theorem z_t2 : ∀ k, k < 5 → (TX2 k).1 = RX2 ∧ (zft 2 k = 0 → tyX2 k = .int) ∧ (zft 2 k = 1 → tyX2 k = .boolean) ∧ (zft 2 k = 2 → tyX2 k = .double) ∧ (zft 2 k = 3 → (∃ n, tyX2 k = .object n) ∨ ∃ n, tyX2 k = .array n) ∧ zft 2 k < 4 := by
  intro k hk
  have h : ∀ k, k < 5 → (decide ((TX2 k).1 = RX2) && (match zft 2 k, tyX2 k with | 0, .int => true | 1, .boolean => true | 2, .double => true | 3, .object _ => true | 3, .array _ => true | _, _ => false)) = true := by decide +kernel
  have h1 := h k hk
  rw [Bool.and_eq_true] at h1
  refine ⟨of_decide_eq_true h1.1, ?_⟩
  have h2 := h1.2
  revert h2
  generalize zft 2 k = a
  generalize tyX2 k = b
  intro h2
  split at h2 <;> simp_all
theorem z_t3 : ∀ k, k < 12 → (TX0 k).1 = RX0 ∧ (zft 3 k = 0 → tyX0 k = .int) ∧ (zft 3 k = 1 → tyX0 k = .boolean) ∧ (zft 3 k = 2 → tyX0 k = .double) ∧ (zft 3 k = 3 → (∃ n, tyX0 k = .object n) ∨ ∃ n, tyX0 k = .array n) ∧ zft 3 k < 4 := by
  intro k hk
  have h : ∀ k, k < 12 → (decide ((TX0 k).1 = RX0) && (match zft 3 k, tyX0 k with | 0, .int => true | 1, .boolean => true | 2, .double => true | 3, .object _ => true | 3, .array _ => true | _, _ => false)) = true := by decide +kernel
  have h1 := h k hk
  rw [Bool.and_eq_true] at h1
  refine ⟨of_decide_eq_true h1.1, ?_⟩
  have h2 := h1.2
  revert h2
  generalize zft 3 k = a
  generalize tyX0 k = b
  intro h2
  split at h2 <;> simp_all
theorem z_t4 : ∀ k, k < 5 → (TX4 k).1 = RX4 ∧ (zft 4 k = 0 → tyX4 k = .int) ∧ (zft 4 k = 1 → tyX4 k = .boolean) ∧ (zft 4 k = 2 → tyX4 k = .double) ∧ (zft 4 k = 3 → (∃ n, tyX4 k = .object n) ∨ ∃ n, tyX4 k = .array n) ∧ zft 4 k < 4 := by
  intro k hk
  have h : ∀ k, k < 5 → (decide ((TX4 k).1 = RX4) && (match zft 4 k, tyX4 k with | 0, .int => true | 1, .boolean => true | 2, .double => true | 3, .object _ => true | 3, .array _ => true | _, _ => false)) = true := by decide +kernel
  have h1 := h k hk
  rw [Bool.and_eq_true] at h1
  refine ⟨of_decide_eq_true h1.1, ?_⟩
  have h2 := h1.2
  revert h2
  generalize zft 4 k = a
  generalize tyX4 k = b
  intro h2
  split at h2 <;> simp_all
theorem z_t5 : ∀ k, k < 11 → (TX5 k).1 = RX5 ∧ (zft 5 k = 0 → tyX5 k = .int) ∧ (zft 5 k = 1 → tyX5 k = .boolean) ∧ (zft 5 k = 2 → tyX5 k = .double) ∧ (zft 5 k = 3 → (∃ n, tyX5 k = .object n) ∨ ∃ n, tyX5 k = .array n) ∧ zft 5 k < 4 := by
  intro k hk
  have h : ∀ k, k < 11 → (decide ((TX5 k).1 = RX5) && (match zft 5 k, tyX5 k with | 0, .int => true | 1, .boolean => true | 2, .double => true | 3, .object _ => true | 3, .array _ => true | _, _ => false)) = true := by decide +kernel
  have h1 := h k hk
  rw [Bool.and_eq_true] at h1
  refine ⟨of_decide_eq_true h1.1, ?_⟩
  have h2 := h1.2
  revert h2
  generalize zft 5 k = a
  generalize tyX5 k = b
  intro h2
  split at h2 <;> simp_all
theorem z_t6 : ∀ k, k < 12 → (TX0 k).1 = RX0 ∧ (zft 6 k = 0 → tyX0 k = .int) ∧ (zft 6 k = 1 → tyX0 k = .boolean) ∧ (zft 6 k = 2 → tyX0 k = .double) ∧ (zft 6 k = 3 → (∃ n, tyX0 k = .object n) ∨ ∃ n, tyX0 k = .array n) ∧ zft 6 k < 4 := by
  intro k hk
  have h : ∀ k, k < 12 → (decide ((TX0 k).1 = RX0) && (match zft 6 k, tyX0 k with | 0, .int => true | 1, .boolean => true | 2, .double => true | 3, .object _ => true | 3, .array _ => true | _, _ => false)) = true := by decide +kernel
  have h1 := h k hk
  rw [Bool.and_eq_true] at h1
  refine ⟨of_decide_eq_true h1.1, ?_⟩
  have h2 := h1.2
  revert h2
  generalize zft 6 k = a
  generalize tyX0 k = b
  intro h2
  split at h2 <;> simp_all
theorem z_t7 : ∀ k, k < 4 → (TX7 k).1 = RX7 ∧ (zft 7 k = 0 → tyX7 k = .int) ∧ (zft 7 k = 1 → tyX7 k = .boolean) ∧ (zft 7 k = 2 → tyX7 k = .double) ∧ (zft 7 k = 3 → (∃ n, tyX7 k = .object n) ∨ ∃ n, tyX7 k = .array n) ∧ zft 7 k < 4 := by
  intro k hk
  have h : ∀ k, k < 4 → (decide ((TX7 k).1 = RX7) && (match zft 7 k, tyX7 k with | 0, .int => true | 1, .boolean => true | 2, .double => true | 3, .object _ => true | 3, .array _ => true | _, _ => false)) = true := by decide +kernel
  have h1 := h k hk
  rw [Bool.and_eq_true] at h1
  refine ⟨of_decide_eq_true h1.1, ?_⟩
  have h2 := h1.2
  revert h2
  generalize zft 7 k = a
  generalize tyX7 k = b
  intro h2
  split at h2 <;> simp_all
theorem z_t8 : ∀ k, k < 8 → (TX8 k).1 = RX8 ∧ (zft 8 k = 0 → tyX8 k = .int) ∧ (zft 8 k = 1 → tyX8 k = .boolean) ∧ (zft 8 k = 2 → tyX8 k = .double) ∧ (zft 8 k = 3 → (∃ n, tyX8 k = .object n) ∨ ∃ n, tyX8 k = .array n) ∧ zft 8 k < 4 := by
  intro k hk
  have h : ∀ k, k < 8 → (decide ((TX8 k).1 = RX8) && (match zft 8 k, tyX8 k with | 0, .int => true | 1, .boolean => true | 2, .double => true | 3, .object _ => true | 3, .array _ => true | _, _ => false)) = true := by decide +kernel
  have h1 := h k hk
  rw [Bool.and_eq_true] at h1
  refine ⟨of_decide_eq_true h1.1, ?_⟩
  have h2 := h1.2
  revert h2
  generalize zft 8 k = a
  generalize tyX8 k = b
  intro h2
  split at h2 <;> simp_all
theorem z_t9 : ∀ k, k < 7 → (TX9 k).1 = RX9 ∧ (zft 9 k = 0 → tyX9 k = .int) ∧ (zft 9 k = 1 → tyX9 k = .boolean) ∧ (zft 9 k = 2 → tyX9 k = .double) ∧ (zft 9 k = 3 → (∃ n, tyX9 k = .object n) ∨ ∃ n, tyX9 k = .array n) ∧ zft 9 k < 4 := by
  intro k hk
  have h : ∀ k, k < 7 → (decide ((TX9 k).1 = RX9) && (match zft 9 k, tyX9 k with | 0, .int => true | 1, .boolean => true | 2, .double => true | 3, .object _ => true | 3, .array _ => true | _, _ => false)) = true := by decide +kernel
  have h1 := h k hk
  rw [Bool.and_eq_true] at h1
  refine ⟨of_decide_eq_true h1.1, ?_⟩
  have h2 := h1.2
  revert h2
  generalize zft 9 k = a
  generalize tyX9 k = b
  intro h2
  split at h2 <;> simp_all
theorem z_t10 : ∀ k, k < 12 → (TX0 k).1 = RX0 ∧ (zft 10 k = 0 → tyX0 k = .int) ∧ (zft 10 k = 1 → tyX0 k = .boolean) ∧ (zft 10 k = 2 → tyX0 k = .double) ∧ (zft 10 k = 3 → (∃ n, tyX0 k = .object n) ∨ ∃ n, tyX0 k = .array n) ∧ zft 10 k < 4 := by
  intro k hk
  have h : ∀ k, k < 12 → (decide ((TX0 k).1 = RX0) && (match zft 10 k, tyX0 k with | 0, .int => true | 1, .boolean => true | 2, .double => true | 3, .object _ => true | 3, .array _ => true | _, _ => false)) = true := by decide +kernel
  have h1 := h k hk
  rw [Bool.and_eq_true] at h1
  refine ⟨of_decide_eq_true h1.1, ?_⟩
  have h2 := h1.2
  revert h2
  generalize zft 10 k = a
  generalize tyX0 k = b
  intro h2
  split at h2 <;> simp_all
theorem z_t11 : ∀ k, k < 18 → (TX11 k).1 = RX11 ∧ (zft 11 k = 0 → tyX11 k = .int) ∧ (zft 11 k = 1 → tyX11 k = .boolean) ∧ (zft 11 k = 2 → tyX11 k = .double) ∧ (zft 11 k = 3 → (∃ n, tyX11 k = .object n) ∨ ∃ n, tyX11 k = .array n) ∧ zft 11 k < 4 := by
  intro k hk
  have h : ∀ k, k < 18 → (decide ((TX11 k).1 = RX11) && (match zft 11 k, tyX11 k with | 0, .int => true | 1, .boolean => true | 2, .double => true | 3, .object _ => true | 3, .array _ => true | _, _ => false)) = true := by decide +kernel
  have h1 := h k hk
  rw [Bool.and_eq_true] at h1
  refine ⟨of_decide_eq_true h1.1, ?_⟩
  have h2 := h1.2
  revert h2
  generalize zft 11 k = a
  generalize tyX11 k = b
  intro h2
  split at h2 <;> simp_all
theorem z_t12 : ∀ k, k < 12 → (TX0 k).1 = RX0 ∧ (zft 12 k = 0 → tyX0 k = .int) ∧ (zft 12 k = 1 → tyX0 k = .boolean) ∧ (zft 12 k = 2 → tyX0 k = .double) ∧ (zft 12 k = 3 → (∃ n, tyX0 k = .object n) ∨ ∃ n, tyX0 k = .array n) ∧ zft 12 k < 4 := by
  intro k hk
  have h : ∀ k, k < 12 → (decide ((TX0 k).1 = RX0) && (match zft 12 k, tyX0 k with | 0, .int => true | 1, .boolean => true | 2, .double => true | 3, .object _ => true | 3, .array _ => true | _, _ => false)) = true := by decide +kernel
  have h1 := h k hk
  rw [Bool.and_eq_true] at h1
  refine ⟨of_decide_eq_true h1.1, ?_⟩
  have h2 := h1.2
  revert h2
  generalize zft 12 k = a
  generalize tyX0 k = b
  intro h2
  split at h2 <;> simp_all
/-- of each class: its types, its names apart, its words -/
theorem zcl_ok : ∀ ci, ci < 13 → ∃ (C : String) (T : u_T) (N : Nat) (ty0 : Nat → FieldType), zcl[ci]? = some (C, T, N) ∧ zfN[ci]? = some N ∧ (∀ k, k < N → parseFieldDescriptor (T k).2.2.1 = some (ty0 k)) ∧ (∀ a, a < N → ∀ b, b < N → a ≠ b → (T a).2.1 ≠ (T b).2.1) ∧ (∀ w ∈ u_ws C T N, w ∈ zTs) ∧
    (∀ k, k < N → (T k).1 = C ∧ (zft ci k = 0 → ty0 k = .int) ∧ (zft ci k = 1 → ty0 k = .boolean) ∧ (zft ci k = 2 → ty0 k = .double) ∧ (zft ci k = 3 → (∃ n, ty0 k = .object n) ∨ ∃ n, ty0 k = .array n) ∧ zft ci k < 4) := by
  have hw : ∀ (ws : List Cond), (ws.all fun w => decide (w ∈ lw_tbl) && goodWord w) = true → ∀ w ∈ ws, w ∈ zTs := fun ws h w hw => by
    have h1 := List.all_eq_true.mp h w hw
    rw [Bool.and_eq_true] at h1
    exact zTs_of (of_decide_eq_true h1.1) h1.2
  intro ci hci
  have hc : ci = 0 ∨ ci = 1 ∨ ci = 2 ∨ ci = 3 ∨ ci = 4 ∨ ci = 5 ∨ ci = 6 ∨ ci = 7 ∨ ci = 8 ∨ ci = 9 ∨ ci = 10 ∨ ci = 11 ∨ ci = 12 := by omega
  rcases hc with rfl | rfl | rfl | rfl | rfl | rfl | rfl | rfl | rfl | rfl | rfl | rfl | rfl
  · exact ⟨RX0, TX0, 12, tyX0, rfl, rfl, tyX0_ok, nmX0, hw _ (by decide +kernel), z_t0⟩
  · exact ⟨RX0, TX0, 12, tyX0, rfl, rfl, tyX0_ok, nmX0, hw _ (by decide +kernel), z_t1⟩
  · exact ⟨RX2, TX2, 5, tyX2, rfl, rfl, tyX2_ok, nmX2, hw _ (by decide +kernel), z_t2⟩
  · exact ⟨RX0, TX0, 12, tyX0, rfl, rfl, tyX0_ok, nmX0, hw _ (by decide +kernel), z_t3⟩
  · exact ⟨RX4, TX4, 5, tyX4, rfl, rfl, tyX4_ok, nmX4, hw _ (by decide +kernel), z_t4⟩
  · exact ⟨RX5, TX5, 11, tyX5, rfl, rfl, tyX5_ok, nmX5, hw _ (by decide +kernel), z_t5⟩
  · exact ⟨RX0, TX0, 12, tyX0, rfl, rfl, tyX0_ok, nmX0, hw _ (by decide +kernel), z_t6⟩
  · exact ⟨RX7, TX7, 4, tyX7, rfl, rfl, tyX7_ok, nmX7, hw _ (by decide +kernel), z_t7⟩
  · exact ⟨RX8, TX8, 8, tyX8, rfl, rfl, tyX8_ok, nmX8, hw _ (by decide +kernel), z_t8⟩
  · exact ⟨RX9, TX9, 7, tyX9, rfl, rfl, tyX9_ok, nmX9, hw _ (by decide +kernel), z_t9⟩
  · exact ⟨RX0, TX0, 12, tyX0, rfl, rfl, tyX0_ok, nmX0, hw _ (by decide +kernel), z_t10⟩
  · exact ⟨RX11, TX11, 18, tyX11, rfl, rfl, tyX11_ok, nmX11, hw _ (by decide +kernel), z_t11⟩
  · exact ⟨RX0, TX0, 12, tyX0, rfl, rfl, tyX0_ok, nmX0, hw _ (by decide +kernel), z_t12⟩
