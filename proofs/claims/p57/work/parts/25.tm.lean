/-! The calls' words. -/
theorem zTM_b0 : ((zTM.drop 0).take 20).all zTMb = true := by decide +kernel
theorem zTM_b1 : ((zTM.drop 20).take 20).all zTMb = true := by decide +kernel
theorem zTM_b2 : ((zTM.drop 40).take 20).all zTMb = true := by decide +kernel
theorem zTM_b3 : ((zTM.drop 60).take 20).all zTMb = true := by decide +kernel
theorem zTM_b4 : ((zTM.drop 80).take 20).all zTMb = true := by decide +kernel
theorem zTM_b5 : ((zTM.drop 100).take 20).all zTMb = true := by decide +kernel
theorem zTM_b6 : ((zTM.drop 120).take 20).all zTMb = true := by decide +kernel
theorem zTM_b7 : ((zTM.drop 140).take 20).all zTMb = true := by decide +kernel
theorem zTM_b8 : ((zTM.drop 160).take 20).all zTMb = true := by decide +kernel
theorem zTM_b9 : ((zTM.drop 180).take 20).all zTMb = true := by decide +kernel
theorem zTM_b10 : ((zTM.drop 200).take 20).all zTMb = true := by decide +kernel
theorem zTM_b11 : ((zTM.drop 220).take 20).all zTMb = true := by decide +kernel
theorem zTM_b12 : ((zTM.drop 240).take 20).all zTMb = true := by decide +kernel
theorem zTM_b13 : ((zTM.drop 260).take 20).all zTMb = true := by decide +kernel
theorem zTM_b14 : ((zTM.drop 280).take 20).all zTMb = true := by decide +kernel
theorem ztd {α : Type} (l : List α) (k : Nat) {e : α} (h : e ∈ l.drop k) : e ∈ (l.drop k).take 20 ∨ e ∈ l.drop (k + 20) := by
  rw [← List.take_append_drop 20 (l.drop k), List.drop_drop] at h
  exact List.mem_append.mp h
theorem zTM_b : ∀ e ∈ zTM, zTMb e = true := by
  intro e he
  have he : e ∈ zTM.drop 0 := he
  rcases ztd _ _ he with h | he
  · exact List.all_eq_true.mp zTM_b0 e h
  rcases ztd _ _ he with h | he
  · exact List.all_eq_true.mp zTM_b1 e h
  rcases ztd _ _ he with h | he
  · exact List.all_eq_true.mp zTM_b2 e h
  rcases ztd _ _ he with h | he
  · exact List.all_eq_true.mp zTM_b3 e h
  rcases ztd _ _ he with h | he
  · exact List.all_eq_true.mp zTM_b4 e h
  rcases ztd _ _ he with h | he
  · exact List.all_eq_true.mp zTM_b5 e h
  rcases ztd _ _ he with h | he
  · exact List.all_eq_true.mp zTM_b6 e h
  rcases ztd _ _ he with h | he
  · exact List.all_eq_true.mp zTM_b7 e h
  rcases ztd _ _ he with h | he
  · exact List.all_eq_true.mp zTM_b8 e h
  rcases ztd _ _ he with h | he
  · exact List.all_eq_true.mp zTM_b9 e h
  rcases ztd _ _ he with h | he
  · exact List.all_eq_true.mp zTM_b10 e h
  rcases ztd _ _ he with h | he
  · exact List.all_eq_true.mp zTM_b11 e h
  rcases ztd _ _ he with h | he
  · exact List.all_eq_true.mp zTM_b12 e h
  rcases ztd _ _ he with h | he
  · exact List.all_eq_true.mp zTM_b13 e h
  rcases ztd _ _ he with h | he
  · exact List.all_eq_true.mp zTM_b14 e h
  exact absurd he (by rw [show zTM.drop (0 + 20 + 20 + 20 + 20 + 20 + 20 + 20 + 20 + 20 + 20 + 20 + 20 + 20 + 20 + 20) = [] from List.drop_eq_nil_of_le (by decide +kernel)]; exact List.not_mem_nil)
