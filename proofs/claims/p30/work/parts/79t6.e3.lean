/-! a boat's place, a day on -/
theorem ck_ab {k : Nat} {C I : jj_I} (hg : gpl k C I) (n2 : ¬ C (aB 0 k) 3 = 2) : (¬ 1 < (if 0 ≤ I (aB 0 k) 4 - C (aB 0 k) 4 then I (aB 0 k) 4 - C (aB 0 k) 4 else 0 - (I (aB 0 k) 4 - C (aB 0 k) 4))) ∧
    (¬ I (aB 0 k) 4 = C (aB 0 k) 4 → (if 0 ≤ C (aB 0 k) 6 - I (aB 0 k) 4 then C (aB 0 k) 6 - I (aB 0 k) 4 else 0 - (C (aB 0 k) 6 - I (aB 0 k) 4)) < (if 0 ≤ C (aB 0 k) 6 - C (aB 0 k) 4 then C (aB 0 k) 6 - C (aB 0 k) 4 else 0 - (C (aB 0 k) 6 - C (aB 0 k) 4))) := by
  rcases hg.2 n2 with e | ⟨h, g, p, e1, e2, e3, h1, h2, h3, h4⟩
  · refine ⟨?_, fun n => absurd e n⟩
    rw [e, Int32.sub_self]
    decide
  · rw [e1, e2, e3, jl_abs (by omega) (by omega), jl_abs (by omega) (by omega), jl_abs (by omega) (by omega)]
    have l1 : f_lw h p = 1 := by unfold f_lw; split <;> omega
    have l2 : f_lw p g < f_lw h g := by unfold f_lw; split <;> split <;> omega
    have l3 : f_lw h g < 8 := by unfold f_lw; split <;> omega
    rw [l1]
    exact ⟨by decide, fun _ => (sn_il (by omega) (by omega)).mpr l2⟩
