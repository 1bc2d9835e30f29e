set_option maxRecDepth 16384
/-! flag. -/
theorem zac_u {s : zS} (hx : zac s) (hp : ∀ f, 0 ≤ f → f < 8 → -1 ≤ s 62 f ∧ s 62 f ≤ 7) {f p b : Int} (f0 : 0 ≤ f ∧ f ≤ 7) (p0 : -1 ≤ p ∧ p ≤ 7) (e : ¬ zpaT s p f) : zac (zup (zup s 61 f b) 62 f p) := by
  obtain ⟨rank, hr⟩ := zac_r hx hp
  refine ⟨fun y => rank y + 8 * zcn1 (¬ zpaT s p y), fun g g0 g1 hg => ?_⟩
  show rank (zup (zup s 61 f b) 62 f p 62 g) + 8 * zcn1 (¬ zpaT s p (zup (zup s 61 f b) 62 f p 62 g)) < rank g + 8 * zcn1 (¬ zpaT s p g)
  by_cases c : g = f
  · subst c
    rw [zup_s] at hg ⊢
    rw [zcn1_t e, zcn1_f (fun z => z ⟨0, rfl⟩)]
    have h1 := (hr g g0 g1).1
    have h2 := (hr p (by omega) (by omega)).1
    omega
  · have e2 : zup (zup s 61 f b) 62 f p 62 g = s 62 g := (zup_a c).trans (zup_j (by decide))
    rw [e2] at hg ⊢
    have h1 := (hr g g0 g1).2 hg
    by_cases d : zpaT s p g
    · have d2 : zpaT s p (s 62 g) := by
        obtain ⟨n, hn⟩ := d
        refine ⟨n + 1, ?_⟩
        show (if zpa s p n = -1 then -1 else s 62 (zpa s p n)) = _
        rw [if_neg (by omega), hn]
      rw [zcn1_f (fun z => z d2), zcn1_f (fun z => z d)]
      omega
    · rw [zcn1_t d]
      have := zcn1_r (¬ zpaT s p (s 62 g))
      omega
