set_option maxRecDepth 16384
/-! From the law's entry: what the small machine's run says of the law. -/
def zh0 (L : Nat) (xs : Nat → Int32) : zH := (fun _ => 0, fun k i => if k = 40 ∧ i = 0 then L else 0, fun k i j => if k = 40 ∧ i = 0 then xs j else 0, fun _ _ _ => none, fun _ _ _ => 0, fun _ _ _ => 0, 0, 0)
theorem zRel_0 {G : zG} {H : Heap} {L : Nat} {xs : Nat → Int32} {b : Nat} (e : G.2.2.2.2 = (b, L, xs)) : zRel G (zh0 L xs) H (fun _ _ => b) := by
  have hx : ∀ k i, zex (zh0 L xs) k i → False := by
    intro k i h
    unfold zex at h
    split at h
    · exact absurd h.2.1 (Nat.not_lt_zero _)
    · exact absurd h.2.2 (Nat.not_lt_zero _)
  refine ⟨[], fun _ _ => 0, ?_, ?_, fun k i h => (hx k i h).elim, fun k i k' i' h => (hx k i h).elim, ?_, ?_, ?_, ?_⟩
  · intro k q h
    cases h
  · refine ⟨fun i j p q h => ?_, fun k q h => ?_⟩
    · cases h
    · cases h
  · intro k i j q h
    cases h
  · rw [e]
  · rw [e]
    rfl
  · intro j _
    rw [e]
    rfl
theorem zframed {s t : State} {o : Outcome} {L : List Loc} {k n k' n' : Nat} (h : FrameEnd s o t L k n) (hL : ∀ q ∈ L, s.heap.size ≤ q.base) (hk : k ≤ k') (hn : n ≤ n') : s.sameButNew ({ t with vm := s.vm } : State) [] k' n' := by
  obtain ⟨-, -, h1, h2, h3, h4, h5, h6⟩ := h
  refine ⟨h1, h2, Nat.le_trans h3 (Nat.add_le_add_left hk _), h4, Nat.le_trans h5 hn, fun a c ha => ?_⟩
  obtain ⟨c', e1, e2, e3, e4⟩ := h6 a c ha
  refine ⟨c', e1, e2, e3, fun i _ => e4 i fun hm => ?_⟩
  have := hL _ hm
  have h7 : a < s.heap.size := (Array.getElem?_eq_some_iff.mp ha).1
  exact absurd h7 (Nat.not_lt.mpr this)
theorem zflags {l : Launch} (h : l.flags = flags0) : l.stackTraces = false := by
  unfold Launch.stackTraces
  rw [h]
  decide
theorem zstart {p : Program} {e : Env} {s : State} {m : MethodId} {below : List Frame} {meth : Method} {c : Code} (l : Launch) (hflags : l.flags = flags0) {b L : Nat} {xs : Nat → Int32} (C0 : lw_At p s m meth c b L xs) (ht : ∀ x ∈ c.exceptionTable.toList, False) (hnm : meth.name = (zMt.1 291).name)
    {h' : zH} (hB : zAt 291 0 [some (zrv (some (40, 0))), none, none, none, none, none, none, none, none, none, none, none, none, none, none, none, none, none, none] [] (zh0 L xs) (.inl (some (zI 1))) h') (hc0 : zce h' ≤ 600000) (hs0 : zso h' ≤ 7200000) :
    W p l e room_1 s m #[Value.ref b] below meth c s.heap [] 0 0 (lw_Z below #[Value.ref b] s) (entryFrame m ([Value.ref b] : List Value).toArray 19) := by
  have hc : zce h' ≤ room_1.cells := Nat.le_trans hc0 (by decide)
  have hs : zso h' ≤ room_1.slots := Nat.le_trans hs0 (by decide)
  obtain ⟨k1, k2, k3, k4, k5, k6, k7, k8, k9, k10⟩ := C0
  obtain ⟨D, dA, hK⟩ := zKst k6
  obtain ⟨df, m0, hXL⟩ := zXst_L k6 k10
  obtain ⟨n, hB⟩ := hB
  let G : zG := (D, dA, df, fun q => s.heap.size ≤ q, (b, L, xs))
  have hA : ∀ a : Nat, a < s.heap.size → ¬ G.2.2.2.1 a := fun a h1 h2 => absurd h1 (Nat.not_lt.mpr h2)
  have hE : zEnv G s := ⟨hK, k7, k8, hA _ k8, fun q h => h⟩
  have hX : zXq G m0 s := ⟨fun w hw => zXst_N k6 w (List.mem_append.mpr (Or.inl hw)), zXst_T k6 k10 hA, zXst_C k10, hXL G rfl hA, zXst_A k6⟩
  have e9 : (zPr.2.1 291).1 = 19 := rfl
  have hC : zCx zPr zMt G (zXq G m0) 291 p l room_1 s m #[Value.ref b] meth c := by
    refine ⟨k1, k2, k4, k5, fun w hw => k6 w (List.mem_filter.mp hw).1, k3, k9, ?_, hnm, by decide +kernel, by decide +kernel, hE, hX, zflags hflags⟩
    exact List.eq_nil_iff_forall_not_mem.mpr ht
  have hL0 : zpad (zPr.2.1 291).1 (zil [zrv (some (40, 0))]) = [some (zrv (some (40, 0))), none, none, none, none, none, none, none, none, none, none, none, none, none, none, none, none, none, none] := zmE291 _
  have hok : zokv (zh0 L xs) (zrv (some (40, 0))) := ⟨by decide, Or.inr rfl⟩
  have hLE := zLV_entry (ρ := fun _ _ => b) (as := [zrv (some (40, 0))]) (n := (zPr.2.1 291).1) (by decide)
  rw [hL0] at hLE
  obtain ⟨o0, ho0⟩ : ∃ o0, zPr.1 291 0 = some o0 := ⟨_, rfl⟩
  have ho1 : o0.1.2 = 0 := by
    have : (zfetch 291 0).map (fun o => o.1.2) = some 0 := by decide +kernel
    have h9 : zfetch 291 0 = some o0 := ho0
    rw [h9] at this
    exact Option.some.inj this
  have k := zsnd (G := G) (m0 := m0) n 291 0 _ [] (zh0 L xs) _ h' hB p l e room_1 s m #[Value.ref b] below meth c hC s.heap [] 0 0 _ (fun _ _ => b) (fun _ _ => b) (zh0 L xs) (zce h') (zso h') o0 ho0 va_S.rf (zRel_0 rfl) hLE
    (fun i v hi => by
      rw [← hL0] at hi
      exact (List.mem_singleton.mp (zget_il (zget_pad hi))) ▸ hok) (fun v hv => nomatch hv) (fun _ _ _ _ => rfl) (fun _ _ z => z) (by show 0 + _ = _ + 0; omega) (by show 0 + _ = _ + 0; omega) hc hs
  rw [ho1] at k
  rw [lg_entry_eq]
  intro T hT X
  obtain ⟨t, a1, o, b1, b2, b3⟩ := k T hT X
  refine ⟨t, a1, o, b1, b2, ?_⟩
  rcases b3 with ⟨⟨ρ', v, e1, e2, e3, e4, e5, e6⟩, L1, f1, f2⟩ | ⟨q, f1, E, ce, L1, f2, -⟩
  · cases e1
    refine ⟨e2, lw_closed (d0 := s.drawn) (Drawn.sameBut.refl s.drawn lw_cs) ⟨_, e2⟩ f1.2.1 (zframed f1 f2 hc hs)⟩
  · obtain ⟨ρ', e', h1, -⟩ := f2
    cases h1
