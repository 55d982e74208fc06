/-! a boat's day, told by any memory with the same rows -/
theorem dayB_T {H b : Nat} {C J J2 : jj_I} (e : eqT J2 J) (hb : b < 10) (h : dayB H b C J) : dayB H b C J2 := by
  have e1 := e (aB 0 b) (by simp only [aB]; omega)
  have e2 := e (aBc 0 b) (by simp only [aBc]; omega)
  have e3 : ∀ h, f_ia 0 h H J2 = f_ia 0 h H J := fun h => f_ia_cg (e (aIc 0) (by simp only [aIc]; omega))
  unfold dayB lwb gpl at h ⊢
  rw [e1, e2, e3]
  exact h
