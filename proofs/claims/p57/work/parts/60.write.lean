set_option maxRecDepth 16384
/-! One place of the class's objects is written (printed by wip/whole/gen/writers.py). -/
theorem zi_s {h : zH} {k i j : Nat} {v : Int32} : zi (zsi h k i j v) k i j = v := if_pos ⟨rfl, rfl, rfl⟩
theorem zi_j {h : zH} {k i j i' j' : Nat} {v : Int32} (e : j' ≠ j) : zi (zsi h k i j v) k i' j' = zi h k i' j' := if_neg fun z => e z.2.2
theorem zi_i {h : zH} {k i j i' j' : Nat} {v : Int32} (e : i' ≠ i) : zi (zsi h k i j v) k i' j' = zi h k i' j' := if_neg fun z => e z.2.1
theorem zsc_c {s s' : zS} {f : Nat} {a v : Int} (e : zsc s s') : zsc (zup s f a v) (zup s' f a v) := fun j h1 h2 h3 h4 => by
  funext b
  unfold zup
  rw [e j h1 h2 h3 h4]
theorem zCM_w {h h' : zH} {s s' : zS} (hC : zCM h s) (hk : zKp (fun k => k = 7 ∨ k = 8 ∨ k = 30 ∨ k = 31 ∨ k = 32) h h') (hd : zd h' 10 = zd h 10) (e7 : s' 47 = s 47) (e8 : s' 48 = s 48) (e9 : s' 49 = s 49) : zCM h' s' := by
  have hp : zprs s' = zprs s := by
    funext k
    unfold zprs
    rw [e7]
  have hc : ∀ k n, zcpN s' k n = zcpN s k n := by
    intro k n
    induction n with
    | zero => rfl
    | succ n ih =>
      show zcst _ _ _ = zcst _ _ _
      rw [ih, e8]
  obtain ⟨⟨cd, m1, m2⟩, m3⟩ := hC
  refine ⟨⟨cd, m1, fun w w1 w2 => ?_⟩, fun k k1 k2 => ?_⟩
  · have hz : zsk w = 7 ∨ zsk w = 8 := by
      unfold zsk
      split
      · exact Or.inl rfl
      · exact Or.inr rfl
    obtain ⟨-, -, a1, a2, -⟩ := hk (zsk w) (by rcases hz with z | z <;> rw [z] <;> decide)
    obtain ⟨-, b0, b1, -⟩ := hk 31 (by decide)
    have q := m2 w w1 w2
    obtain ⟨d9, d0, d1, -⟩ := hk (cd w).1 (by rcases q.1.1 with z | z <;> rw [z] <;> decide)
    unfold zCMw at q ⊢
    rw [a1, a2, b0, b1, d0, d1, d9, e7, e8, e9]
    exact q
  · rw [hd, hc, hp]
    exact m3 k k1 k2
theorem zw_9_3 {h : zH} {s : zS} {v x : Int} (hC : zCl h s) (h0 : 0 ≤ v) (h1 : v < 4) : zCl (zsi h 9 v.toNat 3 (zE x)) (zup s 21 v x) := by
  obtain ⟨c1, c2, c3, c4, c5, c6, c7, c8, c9, c10, c11, c12, c13, c14⟩ := hC
  refine ⟨c1, c2, c3, c4, c5, c6, c7, c8, ⟨c9.1, fun u u0 u1 => ?_⟩, c10, c11, c12, zCM_w c13 (zKp_i (by decide)) rfl rfl rfl rfl, c14⟩
  obtain ⟨p0, p1, p2, p3, p4, p5, p6, p7, p8, p9, p10, p11, p12, p13, p14⟩ := c9.2 u u0 u1
  by_cases eu : u = v
  · subst eu
    exact ⟨p0, p1, p2, p3, p4, p5, p6, p7, p8, p9, zi_s.trans (congrArg zE zup_s.symm), (fun z => (zi_j (by decide)).trans (p11 z)), (zi_j (by decide)).trans p12, (zi_j (by decide)).trans p13, (zi_j (by decide)).trans p14⟩
  · have e2 : u.toNat ≠ v.toNat := by omega
    exact ⟨p0, p1, p2, p3, p4, p5, p6, p7, p8, p9, (zi_i e2).trans (p10.trans (congrArg zE (zup_a eu).symm)), (fun z => (zi_j (by decide)).trans (p11 z)), (zi_j (by decide)).trans p12, (zi_j (by decide)).trans p13, (zi_j (by decide)).trans p14⟩
theorem zw_9_6 {h : zH} {s : zS} {v x : Int} (hC : zCl h s) (h0 : 0 ≤ v) (h1 : v < 4) : zCl (zsi h 9 v.toNat 6 (zE x)) (zup s 24 v x) := by
  obtain ⟨c1, c2, c3, c4, c5, c6, c7, c8, c9, c10, c11, c12, c13, c14⟩ := hC
  refine ⟨c1, c2, c3, c4, c5, c6, c7, c8, ⟨c9.1, fun u u0 u1 => ?_⟩, c10, c11, c12, zCM_w c13 (zKp_i (by decide)) rfl rfl rfl rfl, c14⟩
  obtain ⟨p0, p1, p2, p3, p4, p5, p6, p7, p8, p9, p10, p11, p12, p13, p14⟩ := c9.2 u u0 u1
  by_cases eu : u = v
  · subst eu
    exact ⟨p0, p1, p2, p3, p4, p5, p6, p7, p8, p9, (zi_j (by decide)).trans p10, (fun z => (zi_j (by decide)).trans (p11 z)), (zi_j (by decide)).trans p12, zi_s.trans (congrArg zE zup_s.symm), (zi_j (by decide)).trans p14⟩
  · have e2 : u.toNat ≠ v.toNat := by omega
    exact ⟨p0, p1, p2, p3, p4, p5, p6, p7, p8, p9, (zi_j (by decide)).trans p10, (fun z => (zi_j (by decide)).trans (p11 z)), (zi_j (by decide)).trans p12, (zi_i e2).trans (p13.trans (congrArg zE (zup_a eu).symm)), (zi_j (by decide)).trans p14⟩
theorem zw_9_7 {h : zH} {s : zS} {v x : Int} (hC : zCl h s) (h0 : 0 ≤ v) (h1 : v < 4) : zCl (zsi h 9 v.toNat 7 (zE x)) (zup s 50 v x) := by
  obtain ⟨c1, c2, c3, c4, c5, c6, c7, c8, c9, c10, c11, c12, c13, c14⟩ := hC
  refine ⟨c1, c2, c3, c4, c5, c6, c7, c8, ⟨c9.1, fun u u0 u1 => ?_⟩, c10, c11, c12, zCM_w c13 (zKp_i (by decide)) rfl rfl rfl rfl, c14⟩
  obtain ⟨p0, p1, p2, p3, p4, p5, p6, p7, p8, p9, p10, p11, p12, p13, p14⟩ := c9.2 u u0 u1
  by_cases eu : u = v
  · subst eu
    exact ⟨p0, p1, p2, p3, p4, p5, p6, p7, p8, p9, (zi_j (by decide)).trans p10, (fun z => (zi_j (by decide)).trans (p11 z)), (zi_j (by decide)).trans p12, (zi_j (by decide)).trans p13, zi_s.trans (congrArg zE zup_s.symm)⟩
  · have e2 : u.toNat ≠ v.toNat := by omega
    exact ⟨p0, p1, p2, p3, p4, p5, p6, p7, p8, p9, (zi_j (by decide)).trans p10, (fun z => (zi_j (by decide)).trans (p11 z)), (zi_j (by decide)).trans p12, (zi_j (by decide)).trans p13, (zi_i e2).trans (p14.trans (congrArg zE (zup_a eu).symm))⟩
theorem zw_2_1 {h : zH} {s : zS} {f x : Int} (hC : zCl h s) (h0 : 0 ≤ f) (h1 : f < 8) : zCl (zsi h 2 f.toNat 1 (zE x)) (zup s 61 f x) := by
  obtain ⟨c1, c2, c3, c4, c5, c6, c7, c8, c9, c10, c11, c12, c13, c14⟩ := hC
  refine ⟨c1, c2, c3, c4, c5, c6, c7, c8, c9, c10, ⟨c11.1, fun u u0 u1 => ?_⟩, c12, zCM_w c13 (zKp_i (by decide)) rfl rfl rfl rfl, c14⟩
  obtain ⟨p0, p1, p2, p3, p4, p5, p6, p7, p8⟩ := c11.2 u u0 u1
  by_cases eu : u = f
  · subst eu
    exact ⟨p0, p1, zi_s.trans (congrArg zE zup_s.symm), (zi_j (by decide)).trans p3, (zi_j (by decide)).trans p4, (zi_j (by decide)).trans p5, p6, p7, p8⟩
  · have e2 : u.toNat ≠ f.toNat := by omega
    exact ⟨p0, p1, (zi_i e2).trans (p2.trans (congrArg zE (zup_a eu).symm)), (zi_j (by decide)).trans p3, (zi_j (by decide)).trans p4, (zi_j (by decide)).trans p5, p6, p7, p8⟩
theorem zw_2_2 {h : zH} {s : zS} {f x : Int} (hC : zCl h s) (h0 : 0 ≤ f) (h1 : f < 8) : zCl (zsi h 2 f.toNat 2 (zE x)) (zup s 62 f x) := by
  obtain ⟨c1, c2, c3, c4, c5, c6, c7, c8, c9, c10, c11, c12, c13, c14⟩ := hC
  refine ⟨c1, c2, c3, c4, c5, c6, c7, c8, c9, c10, ⟨c11.1, fun u u0 u1 => ?_⟩, c12, zCM_w c13 (zKp_i (by decide)) rfl rfl rfl rfl, c14⟩
  obtain ⟨p0, p1, p2, p3, p4, p5, p6, p7, p8⟩ := c11.2 u u0 u1
  by_cases eu : u = f
  · subst eu
    exact ⟨p0, p1, (zi_j (by decide)).trans p2, zi_s.trans (congrArg zE zup_s.symm), (zi_j (by decide)).trans p4, (zi_j (by decide)).trans p5, p6, p7, p8⟩
  · have e2 : u.toNat ≠ f.toNat := by omega
    exact ⟨p0, p1, (zi_j (by decide)).trans p2, (zi_i e2).trans (p3.trans (congrArg zE (zup_a eu).symm)), (zi_j (by decide)).trans p4, (zi_j (by decide)).trans p5, p6, p7, p8⟩
theorem zw_2_3 {h : zH} {s : zS} {f x : Int} (hC : zCl h s) (h0 : 0 ≤ f) (h1 : f < 8) : zCl (zsi h 2 f.toNat 3 (zE x)) (zup s 63 f x) := by
  obtain ⟨c1, c2, c3, c4, c5, c6, c7, c8, c9, c10, c11, c12, c13, c14⟩ := hC
  refine ⟨c1, c2, c3, c4, c5, c6, c7, c8, c9, c10, ⟨c11.1, fun u u0 u1 => ?_⟩, c12, zCM_w c13 (zKp_i (by decide)) rfl rfl rfl rfl, c14⟩
  obtain ⟨p0, p1, p2, p3, p4, p5, p6, p7, p8⟩ := c11.2 u u0 u1
  by_cases eu : u = f
  · subst eu
    exact ⟨p0, p1, (zi_j (by decide)).trans p2, (zi_j (by decide)).trans p3, zi_s.trans (congrArg zE zup_s.symm), (zi_j (by decide)).trans p5, p6, p7, p8⟩
  · have e2 : u.toNat ≠ f.toNat := by omega
    exact ⟨p0, p1, (zi_j (by decide)).trans p2, (zi_j (by decide)).trans p3, (zi_i e2).trans (p4.trans (congrArg zE (zup_a eu).symm)), (zi_j (by decide)).trans p5, p6, p7, p8⟩
theorem zw_2_4 {h : zH} {s : zS} {f x : Int} (hC : zCl h s) (h0 : 0 ≤ f) (h1 : f < 8) : zCl (zsi h 2 f.toNat 4 (zE x)) (zup s 64 f x) := by
  obtain ⟨c1, c2, c3, c4, c5, c6, c7, c8, c9, c10, c11, c12, c13, c14⟩ := hC
  refine ⟨c1, c2, c3, c4, c5, c6, c7, c8, c9, c10, ⟨c11.1, fun u u0 u1 => ?_⟩, c12, zCM_w c13 (zKp_i (by decide)) rfl rfl rfl rfl, c14⟩
  obtain ⟨p0, p1, p2, p3, p4, p5, p6, p7, p8⟩ := c11.2 u u0 u1
  by_cases eu : u = f
  · subst eu
    exact ⟨p0, p1, (zi_j (by decide)).trans p2, (zi_j (by decide)).trans p3, (zi_j (by decide)).trans p4, zi_s.trans (congrArg zE zup_s.symm), p6, p7, p8⟩
  · have e2 : u.toNat ≠ f.toNat := by omega
    exact ⟨p0, p1, (zi_j (by decide)).trans p2, (zi_j (by decide)).trans p3, (zi_j (by decide)).trans p4, (zi_i e2).trans (p5.trans (congrArg zE (zup_a eu).symm)), p6, p7, p8⟩
theorem zw_5_2 {h : zH} {s : zS} {r x : Int} (hC : zCl h s) (h0 : 0 ≤ r) (h1 : r < s 30 0) : zCl (zsi h 5 r.toNat 2 (zE x)) (zup s 33 r x) := by
  obtain ⟨c1, c2, c3, c4, c5, c6, c7, c8, c9, c10, c11, c12, c13, c14⟩ := hC
  refine ⟨c1, c2, c3, c4, ⟨c5.1, fun u u0 u1 => ?_⟩, c6, c7, c8, c9, c10, c11, c12, zCM_w c13 (zKp_i (by decide)) rfl rfl rfl rfl, c14⟩
  obtain ⟨p0, p1, p2, p3, p4, p5, p6, p7, p8, p9, p10, p11, p12, p13, p14, p15⟩ := c5.2 u u0 u1
  by_cases eu : u = r
  · subst eu
    exact ⟨p0, p1, p2, zi_s.trans (congrArg zE zup_s.symm), (zi_j (by decide)).trans p4, (zi_j (by decide)).trans p5, (zi_j (by decide)).trans p6, (zi_j (by decide)).trans p7, (zi_j (by decide)).trans p8, p9, p10, p11, p12, p13, p14, p15⟩
  · have e2 : u.toNat ≠ r.toNat := by omega
    exact ⟨p0, p1, p2, (zi_i e2).trans (p3.trans (congrArg zE (zup_a eu).symm)), (zi_j (by decide)).trans p4, (zi_j (by decide)).trans p5, (zi_j (by decide)).trans p6, (zi_j (by decide)).trans p7, (zi_j (by decide)).trans p8, p9, p10, p11, p12, p13, p14, p15⟩
theorem zw_5_3 {h : zH} {s : zS} {r x : Int} (hC : zCl h s) (h0 : 0 ≤ r) (h1 : r < s 30 0) : zCl (zsi h 5 r.toNat 3 (zE x)) (zup s 34 r x) := by
  obtain ⟨c1, c2, c3, c4, c5, c6, c7, c8, c9, c10, c11, c12, c13, c14⟩ := hC
  refine ⟨c1, c2, c3, c4, ⟨c5.1, fun u u0 u1 => ?_⟩, c6, c7, c8, c9, c10, c11, c12, zCM_w c13 (zKp_i (by decide)) rfl rfl rfl rfl, c14⟩
  obtain ⟨p0, p1, p2, p3, p4, p5, p6, p7, p8, p9, p10, p11, p12, p13, p14, p15⟩ := c5.2 u u0 u1
  by_cases eu : u = r
  · subst eu
    exact ⟨p0, p1, p2, (zi_j (by decide)).trans p3, zi_s.trans (congrArg zE zup_s.symm), (zi_j (by decide)).trans p5, (zi_j (by decide)).trans p6, (zi_j (by decide)).trans p7, (zi_j (by decide)).trans p8, p9, p10, p11, p12, p13, p14, p15⟩
  · have e2 : u.toNat ≠ r.toNat := by omega
    exact ⟨p0, p1, p2, (zi_j (by decide)).trans p3, (zi_i e2).trans (p4.trans (congrArg zE (zup_a eu).symm)), (zi_j (by decide)).trans p5, (zi_j (by decide)).trans p6, (zi_j (by decide)).trans p7, (zi_j (by decide)).trans p8, p9, p10, p11, p12, p13, p14, p15⟩
theorem zw_5_4 {h : zH} {s : zS} {r x : Int} (hC : zCl h s) (h0 : 0 ≤ r) (h1 : r < s 30 0) : zCl (zsi h 5 r.toNat 4 (zE x)) (zup s 35 r x) := by
  obtain ⟨c1, c2, c3, c4, c5, c6, c7, c8, c9, c10, c11, c12, c13, c14⟩ := hC
  refine ⟨c1, c2, c3, c4, ⟨c5.1, fun u u0 u1 => ?_⟩, c6, c7, c8, c9, c10, c11, c12, zCM_w c13 (zKp_i (by decide)) rfl rfl rfl rfl, c14⟩
  obtain ⟨p0, p1, p2, p3, p4, p5, p6, p7, p8, p9, p10, p11, p12, p13, p14, p15⟩ := c5.2 u u0 u1
  by_cases eu : u = r
  · subst eu
    exact ⟨p0, p1, p2, (zi_j (by decide)).trans p3, (zi_j (by decide)).trans p4, zi_s.trans (congrArg zE zup_s.symm), (zi_j (by decide)).trans p6, (zi_j (by decide)).trans p7, (zi_j (by decide)).trans p8, p9, p10, p11, p12, p13, p14, p15⟩
  · have e2 : u.toNat ≠ r.toNat := by omega
    exact ⟨p0, p1, p2, (zi_j (by decide)).trans p3, (zi_j (by decide)).trans p4, (zi_i e2).trans (p5.trans (congrArg zE (zup_a eu).symm)), (zi_j (by decide)).trans p6, (zi_j (by decide)).trans p7, (zi_j (by decide)).trans p8, p9, p10, p11, p12, p13, p14, p15⟩
theorem zw_5_5 {h : zH} {s : zS} {r x : Int} (hC : zCl h s) (h0 : 0 ≤ r) (h1 : r < s 30 0) : zCl (zsi h 5 r.toNat 5 (zE x)) (zup s 36 r x) := by
  obtain ⟨c1, c2, c3, c4, c5, c6, c7, c8, c9, c10, c11, c12, c13, c14⟩ := hC
  refine ⟨c1, c2, c3, c4, ⟨c5.1, fun u u0 u1 => ?_⟩, c6, c7, c8, c9, c10, c11, c12, zCM_w c13 (zKp_i (by decide)) rfl rfl rfl rfl, c14⟩
  obtain ⟨p0, p1, p2, p3, p4, p5, p6, p7, p8, p9, p10, p11, p12, p13, p14, p15⟩ := c5.2 u u0 u1
  by_cases eu : u = r
  · subst eu
    exact ⟨p0, p1, p2, (zi_j (by decide)).trans p3, (zi_j (by decide)).trans p4, (zi_j (by decide)).trans p5, zi_s.trans (congrArg zE zup_s.symm), (zi_j (by decide)).trans p7, (zi_j (by decide)).trans p8, p9, p10, p11, p12, p13, p14, p15⟩
  · have e2 : u.toNat ≠ r.toNat := by omega
    exact ⟨p0, p1, p2, (zi_j (by decide)).trans p3, (zi_j (by decide)).trans p4, (zi_j (by decide)).trans p5, (zi_i e2).trans (p6.trans (congrArg zE (zup_a eu).symm)), (zi_j (by decide)).trans p7, (zi_j (by decide)).trans p8, p9, p10, p11, p12, p13, p14, p15⟩
theorem zw_5_6 {h : zH} {s : zS} {r x : Int} (hC : zCl h s) (h0 : 0 ≤ r) (h1 : r < s 30 0) : zCl (zsi h 5 r.toNat 6 (zE x)) (zup s 38 r x) := by
  obtain ⟨c1, c2, c3, c4, c5, c6, c7, c8, c9, c10, c11, c12, c13, c14⟩ := hC
  refine ⟨c1, c2, c3, c4, ⟨c5.1, fun u u0 u1 => ?_⟩, c6, c7, c8, c9, c10, c11, c12, zCM_w c13 (zKp_i (by decide)) rfl rfl rfl rfl, c14⟩
  obtain ⟨p0, p1, p2, p3, p4, p5, p6, p7, p8, p9, p10, p11, p12, p13, p14, p15⟩ := c5.2 u u0 u1
  by_cases eu : u = r
  · subst eu
    exact ⟨p0, p1, p2, (zi_j (by decide)).trans p3, (zi_j (by decide)).trans p4, (zi_j (by decide)).trans p5, (zi_j (by decide)).trans p6, zi_s.trans (congrArg zE zup_s.symm), (zi_j (by decide)).trans p8, p9, p10, p11, p12, p13, p14, p15⟩
  · have e2 : u.toNat ≠ r.toNat := by omega
    exact ⟨p0, p1, p2, (zi_j (by decide)).trans p3, (zi_j (by decide)).trans p4, (zi_j (by decide)).trans p5, (zi_j (by decide)).trans p6, (zi_i e2).trans (p7.trans (congrArg zE (zup_a eu).symm)), (zi_j (by decide)).trans p8, p9, p10, p11, p12, p13, p14, p15⟩
theorem zw_5_8 {h : zH} {s : zS} {r x : Int} (hC : zCl h s) (h0 : 0 ≤ r) (h1 : r < s 30 0) : zCl (zsi h 5 r.toNat 8 (zE x)) (zup s 37 r x) := by
  obtain ⟨c1, c2, c3, c4, c5, c6, c7, c8, c9, c10, c11, c12, c13, c14⟩ := hC
  refine ⟨c1, c2, c3, c4, ⟨c5.1, fun u u0 u1 => ?_⟩, c6, c7, c8, c9, c10, c11, c12, zCM_w c13 (zKp_i (by decide)) rfl rfl rfl rfl, c14⟩
  obtain ⟨p0, p1, p2, p3, p4, p5, p6, p7, p8, p9, p10, p11, p12, p13, p14, p15⟩ := c5.2 u u0 u1
  by_cases eu : u = r
  · subst eu
    exact ⟨p0, p1, p2, (zi_j (by decide)).trans p3, (zi_j (by decide)).trans p4, (zi_j (by decide)).trans p5, (zi_j (by decide)).trans p6, (zi_j (by decide)).trans p7, zi_s.trans (congrArg zE zup_s.symm), p9, p10, p11, p12, p13, p14, p15⟩
  · have e2 : u.toNat ≠ r.toNat := by omega
    exact ⟨p0, p1, p2, (zi_j (by decide)).trans p3, (zi_j (by decide)).trans p4, (zi_j (by decide)).trans p5, (zi_j (by decide)).trans p6, (zi_j (by decide)).trans p7, (zi_i e2).trans (p8.trans (congrArg zE (zup_a eu).symm)), p9, p10, p11, p12, p13, p14, p15⟩
theorem zw_11_1 {h : zH} {s : zS} {t x : Int} (hC : zCl h s) (h0 : 0 ≤ t) (h1 : t < s 58 0) : zCl (zsi h 11 t.toNat 1 (zE x)) (zup s 60 t x) := by
  obtain ⟨c1, c2, c3, c4, c5, c6, c7, c8, c9, c10, c11, c12, c13, c14⟩ := hC
  refine ⟨c1, c2, c3, c4, c5, c6, ⟨c7.1, fun u u0 u1 => ?_⟩, c8, c9, c10, c11, c12, zCM_w c13 (zKp_i (by decide)) rfl rfl rfl rfl, c14⟩
  obtain ⟨p0, p1, p2⟩ := c7.2 u u0 u1
  by_cases eu : u = t
  · subst eu
    exact ⟨p0, (zi_j (by decide)).trans p1, zi_s.trans (congrArg zE zup_s.symm)⟩
  · have e2 : u.toNat ≠ t.toNat := by omega
    exact ⟨p0, (zi_j (by decide)).trans p1, (zi_i e2).trans (p2.trans (congrArg zE (zup_a eu).symm))⟩
theorem zw_1_5 {h : zH} {s : zS} {e x : Int} (hC : zCl h s) (h0 : 0 ≤ e) (h1 : e < s 71 0) : zCl (zsi h 1 e.toNat 5 (zE x)) (zup s 77 e x) := by
  obtain ⟨c1, c2, c3, c4, c5, c6, c7, c8, c9, c10, c11, c12, c13, c14⟩ := hC
  refine ⟨c1, c2, c3, c4, c5, c6, c7, ⟨c8.1, fun u u0 u1 => ?_⟩, c9, c10, c11, c12, zCM_w c13 (zKp_i (by decide)) rfl rfl rfl rfl, c14⟩
  obtain ⟨p0, p1, p2, p3, p4, p5, p6⟩ := c8.2 u u0 u1
  by_cases eu : u = e
  · subst eu
    exact ⟨p0, (zi_j (by decide)).trans p1, (zi_j (by decide)).trans p2, (zi_j (by decide)).trans p3, (zi_j (by decide)).trans p4, (zi_j (by decide)).trans p5, zi_s.trans (congrArg zE zup_s.symm)⟩
  · have e2 : u.toNat ≠ e.toNat := by omega
    exact ⟨p0, (zi_j (by decide)).trans p1, (zi_j (by decide)).trans p2, (zi_j (by decide)).trans p3, (zi_j (by decide)).trans p4, (zi_j (by decide)).trans p5, (zi_i e2).trans (p6.trans (congrArg zE (zup_a eu).symm))⟩
theorem zw_36 {h : zH} {s : zS} {r x : Int} (hC : zCl h s) (h0 : 0 ≤ r) (h1 : r < 3) : zCl (zsi h 36 0 r.toNat (zE x)) (zup s 57 r x) := by
  obtain ⟨c1, c2, c3, c4, c5, c6, c7, c8, c9, c10, c11, c12, c13, c14⟩ := hC
  refine ⟨c1, c2, c3, c4, c5, c6, c7, c8, c9, c10, c11, ⟨c12.1, fun u u0 u1 => ?_, c12.2.2⟩, zCM_w c13 (zKp_i (by decide)) rfl rfl rfl rfl, c14⟩
  obtain ⟨p0, p1⟩ := c12.2.1 u u0 u1
  by_cases e : u = r
  · subst e
    exact ⟨p0, zi_s.trans (congrArg zE zup_s.symm)⟩
  · exact ⟨p0, (zi_j (by omega)).trans (p1.trans (congrArg zE (zup_a e).symm))⟩
theorem zw_37 {h : zH} {s : zS} {c x : Int} (hC : zCl h s) (h0 : 0 ≤ c) (h1 : c < 200) : zCl (zsi h 37 0 c.toNat (zE x)) (zup s 70 c x) := by
  obtain ⟨c1, c2, c3, c4, c5, c6, c7, c8, c9, c10, c11, c12, c13, c14⟩ := hC
  refine ⟨c1, c2, c3, c4, c5, c6, c7, c8, c9, c10, c11, ⟨c12.1, c12.2.1, fun u u0 u1 => ?_⟩, zCM_w c13 (zKp_i (by decide)) rfl rfl rfl rfl, c14⟩
  have p1 := c12.2.2 u u0 u1
  by_cases e : u = c
  · subst e
    exact zi_s.trans (congrArg zE zup_s.symm)
  · exact (zi_j (by omega)).trans (p1.trans (congrArg zE (zup_a e).symm))
theorem zw_12_11 {h : zH} {s : zS} {x : Int} (hC : zCl h s) : zCl (zsi h 12 0 11 (zE x)) (zup s 1 0 x) := by
  obtain ⟨c1, c2, c3, c4, c5, c6, c7, c8, c9, c10, c11, c12, c13, c14⟩ := hC
  obtain ⟨q0, q1, q2, q3, q4, q5, q6⟩ := c2
  exact ⟨c1, ⟨zi_s.trans (congrArg zE zup_s.symm), (zi_j (by decide)).trans q1, (zi_j (by decide)).trans q2, (zi_j (by decide)).trans q3, (zi_j (by decide)).trans q4, (zi_j (by decide)).trans q5, fun z => (zi_j (by decide)).trans (q6 z)⟩, c3, c4, c5, c6, c7, c8, c9, c10, c11, c12, zCM_w c13 (zKp_i (by decide)) rfl rfl rfl rfl, c14⟩
theorem zw_12_14 {h : zH} {s : zS} {x : Int} (hC : zCl h s) : zCl (zsi h 12 0 14 (zE x)) (zup s 45 0 x) := by
  obtain ⟨c1, c2, c3, c4, c5, c6, c7, c8, c9, c10, c11, c12, c13, c14⟩ := hC
  obtain ⟨q0, q1, q2, q3, q4, q5, q6⟩ := c2
  exact ⟨c1, ⟨(zi_j (by decide)).trans q0, (zi_j (by decide)).trans q1, zi_s.trans (congrArg zE zup_s.symm), (zi_j (by decide)).trans q3, (zi_j (by decide)).trans q4, (zi_j (by decide)).trans q5, fun z => (zi_j (by decide)).trans (q6 z)⟩, c3, c4, c5, c6, c7, c8, c9, c10, c11, c12, zCM_w c13 (zKp_i (by decide)) rfl rfl rfl rfl, c14⟩
theorem zw_12_15 {h : zH} {s : zS} {x : Int} (hC : zCl h s) : zCl (zsi h 12 0 15 (zE x)) (zup s 19 0 x) := by
  obtain ⟨c1, c2, c3, c4, c5, c6, c7, c8, c9, c10, c11, c12, c13, c14⟩ := hC
  obtain ⟨q0, q1, q2, q3, q4, q5, q6⟩ := c2
  exact ⟨c1, ⟨(zi_j (by decide)).trans q0, (zi_j (by decide)).trans q1, (zi_j (by decide)).trans q2, zi_s.trans (congrArg zE zup_s.symm), (zi_j (by decide)).trans q4, (zi_j (by decide)).trans q5, fun z => (zi_j (by decide)).trans (q6 z)⟩, c3, c4, c5, c6, c7, c8, c9, c10, c11, c12, zCM_w c13 (zKp_i (by decide)) rfl rfl rfl rfl, c14⟩
theorem zw_12_16 {h : zH} {s : zS} {x : Int} (hC : zCl h s) : zCl (zsi h 12 0 16 (zE x)) (zup s 46 0 x) := by
  obtain ⟨c1, c2, c3, c4, c5, c6, c7, c8, c9, c10, c11, c12, c13, c14⟩ := hC
  obtain ⟨q0, q1, q2, q3, q4, q5, q6⟩ := c2
  exact ⟨c1, ⟨(zi_j (by decide)).trans q0, (zi_j (by decide)).trans q1, (zi_j (by decide)).trans q2, (zi_j (by decide)).trans q3, zi_s.trans (congrArg zE zup_s.symm), (zi_j (by decide)).trans q5, fun z => (zi_j (by decide)).trans (q6 z)⟩, c3, c4, c5, c6, c7, c8, c9, c10, c11, c12, zCM_w c13 (zKp_i (by decide)) rfl rfl rfl rfl, c14⟩
theorem zw_12_17 {h : zH} {s : zS} {x : Int} (hC : zCl h s) : zCl (zsi h 12 0 17 (zE x)) (zup s 39 0 x) := by
  obtain ⟨c1, c2, c3, c4, c5, c6, c7, c8, c9, c10, c11, c12, c13, c14⟩ := hC
  obtain ⟨q0, q1, q2, q3, q4, q5, q6⟩ := c2
  exact ⟨c1, ⟨(zi_j (by decide)).trans q0, (zi_j (by decide)).trans q1, (zi_j (by decide)).trans q2, (zi_j (by decide)).trans q3, (zi_j (by decide)).trans q4, zi_s.trans (congrArg zE zup_s.symm), fun z => (zi_j (by decide)).trans (q6 z)⟩, c3, c4, c5, c6, c7, c8, c9, c10, c11, c12, zCM_w c13 (zKp_i (by decide)) rfl rfl rfl rfl, c14⟩

