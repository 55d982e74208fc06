/-! a day of the class, boat by boat -/
section DD
variable {H M B N b d : Nat} {C J X Y : jj_I}
theorem fr_gb {k a : Nat} (h1 : a ≠ aB 0 k) (h2 : a ≠ aBc 0 k) : f_bi 0 k H (f_go 0 k Y) a = Y a := (fr_bi h1 h2).trans (fr_go h1)
/-- what the debts' settling leaves -/
theorem se_off {a : Nat} (hs : sf 0 H M B N C) (h1 : ∀ k, k < 30 → a ≠ aD 0 k) (h2 : ∀ m, m < 5 → a ≠ aM 0 m ∧ a ≠ aMt 0 m) : it (f_se 0) C N a = C a := by
  have hN2 := hs.2.2.2.1.2
  exact (it_in (f := f_se 0) (S := fun J => sf 0 H M B N J ∧ J a = C a) (x := C) ⟨hs, rfl⟩ (N := N) (fun k y hk hy => ⟨sf_se hy.1 hk, by
    obtain ⟨⟨o, ho, e0⟩, ⟨q, hq, e1⟩, -⟩ := hy.1.2.2.2.2.2 k hk
    rw [fr_se (h1 k (by omega)) (by rw [e1, nv_nI (by omega)]; exact (h2 q hq).1) (by rw [e0, nv_nI (by omega)]; exact (h2 o ho).1) (by rw [e1, nv_nI (by omega)]; exact (h2 q hq).2) (by rw [e0, nv_nI (by omega)]; exact (h2 o ho).2)]
    exact hy.2⟩) N (Nat.le_refl _)).2
theorem pd_boat (hs : sf 0 H M B N C) (hk : sk 0 H M B N C) (hb : b < B) : ∃ X, (sf 0 H M B N X ∧ sk 0 H M B N X) ∧ pyd b C X ∧ X (aIc 0) = f_fr 0 H d C (aIc 0) ∧ X (aBc 0 b) = C (aBc 0 b) ∧
    f_pd 0 H B N d C (aB 0 b) = f_bi 0 b H (f_go 0 b X) (aB 0 b) ∧ f_pd 0 H B N d C (aBc 0 b) = f_bi 0 b H (f_go 0 b X) (aBc 0 b) ∧ f_pd 0 H B N d C (aIc 0) = f_fr 0 H d C (aIc 0) := by
  have hB2 := hs.2.2.1.2
  obtain ⟨w1, w2, w3, w4⟩ := py_d (sf_fr (d := d) hs) (sk_fr (d := d) hk) hb
  have w2 : pyd b C (it (f_py 0) (f_fr 0 H d C) B) := by
    unfold pyd at w2 ⊢
    rw [fr_fr (by simp only [aB, aIc]; omega)] at w2
    exact w2
  rw [fr_fr (a := aBc 0 b) (by simp only [aBc, aIc]; omega)] at w4
  have a2 : ∀ k, k ≤ B → (sf 0 H M B N (it (fun k M => f_bi 0 k H (f_go 0 k M)) (it (f_py 0) (f_fr 0 H d C) B) k) ∧ sk 0 H M B N (it (fun k M => f_bi 0 k H (f_go 0 k M)) (it (f_py 0) (f_fr 0 H d C) B) k)) ∧ it (fun k M => f_bi 0 k H (f_go 0 k M)) (it (f_py 0) (f_fr 0 H d C) B) k (aIc 0) = f_fr 0 H d C (aIc 0) :=
    it_in (S := fun J => (sf 0 H M B N J ∧ sk 0 H M B N J) ∧ J (aIc 0) = f_fr 0 H d C (aIc 0)) ⟨w1, w3⟩ (fun k y h1 hy => ⟨⟨sf_gb hy.1.1 h1, sk_gb hy.1.1 hy.1.2 h1⟩, (fr_gb (by simp only [aB, aIc]; omega) (by simp only [aBc, aIc]; omega)).trans hy.2⟩)
  have a3 : ∀ a, (∀ k, k < B → k ≠ b → a ≠ aB 0 k ∧ a ≠ aBc 0 k) → ∀ k, k ≤ b → it (fun k M => f_bi 0 k H (f_go 0 k M)) (it (f_py 0) (f_fr 0 H d C) B) k a = it (f_py 0) (f_fr 0 H d C) B a := fun a ha k hk => by
    induction k with
    | zero => rfl
    | succ k ih => exact (fr_gb (ha k (by omega) (by omega)).1 (ha k (by omega) (by omega)).2).trans (ih (by omega))
  have nB : ∀ k, k < B → k ≠ b → aB 0 b ≠ aB 0 k ∧ aB 0 b ≠ aBc 0 k := fun k h1 h2 => ⟨by simp only [aB]; omega, by simp only [aB, aBc]; omega⟩
  have nC : ∀ k, k < B → k ≠ b → aBc 0 b ≠ aB 0 k ∧ aBc 0 b ≠ aBc 0 k := fun k h1 h2 => ⟨by simp only [aB, aBc]; omega, by simp only [aBc]; omega⟩
  have pk : ∀ a, (∀ k, k < B → k ≠ b → a ≠ aB 0 k ∧ a ≠ aBc 0 k) → a ≠ aR 0 → (∀ k, k < 30 → a ≠ aD 0 k) → (∀ m, m < 5 → a ≠ aM 0 m ∧ a ≠ aMt 0 m) → f_pd 0 H B N d C a = f_bi 0 b H (f_go 0 b (it (fun k M => f_bi 0 k H (f_go 0 k M)) (it (f_py 0) (f_fr 0 H d C) B) b)) a := fun a ha h1 h2 h3 => by
    unfold f_pd
    rw [jj_u_ne h1, se_off (a2 B (Nat.le_refl _)).1.1 h2 h3]
    exact it_pick hb (fun j J hj hjb => fr_gb (ha j hj hjb).1 (ha j hj hjb).2)
  refine ⟨it (fun k M => f_bi 0 k H (f_go 0 k M)) (it (f_py 0) (f_fr 0 H d C) B) b, (a2 b (by omega)).1, ?_, (a2 b (by omega)).2, ?_, ?_, ?_, ?_⟩
  · unfold pyd
    rw [a3 _ nB b (Nat.le_refl _)]
    exact w2
  · rw [a3 _ nC b (Nat.le_refl _)]; exact w4
  · exact pk _ nB (by simp only [aB, aR]; omega) (fun k hk => by simp only [aB, aD]; omega) (fun m hm => ⟨by simp only [aB, aM]; omega, by simp only [aB, aMt]; omega⟩)
  · exact pk _ nC (by simp only [aBc, aR]; omega) (fun k hk => by simp only [aBc, aD]; omega) (fun m hm => ⟨by simp only [aBc, aM]; omega, by simp only [aBc, aMt]; omega⟩)
  · unfold f_pd
    rw [jj_u_ne (by simp only [aIc, aR]; omega), se_off (a2 B (Nat.le_refl _)).1.1 (fun k hk => by simp only [aIc, aD]; omega) (fun m hm => ⟨by simp only [aIc, aM]; omega, by simp only [aIc, aMt]; omega⟩)]
    exact (a2 B (Nat.le_refl _)).2
/-- all that a day may do to a boat -/
def dayB (H b : Nat) (C J : jj_I) : Prop := (C (aB 0 b) 3 = 3 → J (aB 0 b) = C (aB 0 b) ∧ J (aBc 0 b) = C (aBc 0 b)) ∧ (¬ C (aB 0 b) 3 = 3 → ∃ hu, (1 ≤ hu ∧ hu ≤ 20) ∧ C (aB 0 b) 1 = nI hu ∧ J (aB 0 b) 6 = C (aB 0 b) 6 ∧
  ((J (aB 0 b) 3 = 3 ∧ hu = 1 ∧ J (aB 0 b) 1 = 0 ∧ J (aB 0 b) 4 = -1 ∧ J (aB 0 b) 7 = 0 ∧ ∀ g, g < 4 → J (aBc 0 b) g = 0) ∨
   ((J (aB 0 b) 3 = 0 ∨ J (aB 0 b) 3 = 1 ∨ J (aB 0 b) 3 = 2) ∧ (J (aB 0 b) 3 = 1 → C (aB 0 b) 3 = 1) ∧ lwb b J ∧ gpl b C J ∧ J (aBc 0 b) = C (aBc 0 b) ∧
     ((J (aB 0 b) 1 = nI hu ∧ (J (aB 0 b) 3 = 0 → f_ia 0 (nv (J (aB 0 b) 4)) H J ≤ 20)) ∨ (1 < hu ∧ J (aB 0 b) 1 = nI (hu - 1) ∧ ¬ J (aB 0 b) 3 = 1 ∧ (J (aB 0 b) 3 = 0 → ¬ f_ia 0 (nv (J (aB 0 b) 4)) H J ≤ 20))))))
theorem lwb_py (h : pyd b C X) (hl : lwb b C) : lwb b X := by
  rcases h with e | ⟨e1, e2, e3⟩
  · unfold lwb; rw [e]; exact hl
  · refine ⟨fun _ => ?_, fun q => ?_⟩
    · rw [e3 7 (by decide)]
      exact hl.1 (by rw [e1]; decide)
    · rw [e2] at q; exact absurd q (by decide)
theorem gpl_py (h : pyd b C X) (hg : gpl b X J) : gpl b C J := by
  rcases h with e | ⟨e1, e2, e3⟩
  · unfold gpl at hg ⊢; rw [e] at hg; exact hg
  · refine ⟨fun q => ?_, fun _ => ?_⟩
    · rw [e1] at q; exact absurd q (by decide)
    · have := hg.2 (by rw [e2]; decide)
      rw [e3 4 (by decide), e3 6 (by decide)] at this
      exact this
theorem go_3 (h : X (aB 0 b) 3 = 3) : f_bi 0 b H (f_go 0 b X) = X := by
  have g1 : f_g1 0 b X = X := by
    unfold f_g1
    rw [if_neg (fun q => by rw [h] at q; exact absurd q.1 (by decide)), if_neg (fun q => by rw [h] at q; exact absurd q.1 (by decide))]
  have g2 : f_go 0 b X = X := by
    unfold f_go
    rw [g1]
    exact g2_no X (fun q => by rw [h] at q; exact absurd q.1 (by decide))
  rw [g2]
  exact sbi_n (fun q => by
    rcases q with q | q <;> rw [h] at q <;> exact absurd q.1 (by decide))
theorem day_d (hs : sf 0 H M B N C) (hk : sk 0 H M B N C) (hb : b < B) (hl : lwb b C) (hh : tn_hu 0 C b) : dayB H b C (f_pd 0 H B N d C) := by
  obtain ⟨X, ⟨x1, x2⟩, x3, x4, x5, x6, x7, x8⟩ := pd_boat (d := d) hs hk hb
  generalize f_pd 0 H B N d C = J at x6 x7 x8
  refine ⟨fun h3 => ?_, fun h3 => ?_⟩
  · rcases x3 with e | ⟨e1, -, -⟩
    · rw [x6, x7, go_3 (by rw [e]; exact h3), e, x5]
      exact ⟨rfl, rfl⟩
    · rw [h3] at e1; exact absurd e1 (by decide)
  · obtain ⟨hu, u1, u2, eu⟩ := hh.2 h3
    have hx3 : ¬ X (aB 0 b) 3 = 3 := by
      rcases x3 with e | ⟨-, e2, -⟩
      · rw [e]; exact h3
      · rw [e2]; decide
    have row : ∀ s, s ≠ 3 → X (aB 0 b) s = C (aB 0 b) s := fun s hs => by
      rcases x3 with e | ⟨-, -, e3⟩
      · rw [e]
      · exact e3 s hs
    have one : X (aB 0 b) 3 = 1 → C (aB 0 b) 3 = 1 := fun q => by
      rcases x3 with e | ⟨e1, -, -⟩
      · rw [← e]; exact q
      · exact e1
    obtain ⟨g1, g2, g3, g4⟩ := go_d x1 x2 (lwb_py x3 hl) hb hx3
    have hg : f_go 0 b X (aB 0 b) 1 = nI hu := by rw [go_sl (by omega), row 1 (by decide)]; exact eu
    have hg6 : f_go 0 b X (aB 0 b) 6 = C (aB 0 b) 6 := by rw [go_sl (by omega), row 6 (by decide)]
    have hgc : f_go 0 b X (aBc 0 b) = C (aBc 0 b) := by rw [fr_go (by simp only [aB, aBc]; omega)]; exact x5
    have hgi : f_go 0 b X (aIc 0) = J (aIc 0) := by rw [fr_go (by simp only [aB, aIc]; omega), x4, x8]
    have hia : ∀ h, f_ia 0 h H (f_go 0 b X) = f_ia 0 h H J := fun h => f_ia_cg hgi
    refine ⟨hu, ⟨u1, u2⟩, eu, ?_⟩
    rcases bi_d (H := H) u1 u2 hg with ⟨c, q⟩ | ⟨c, q1, q⟩ | ⟨c, q1, q2, q3, q4, q5, q6, q7⟩
    · rw [q] at x6 x7
      refine ⟨by rw [x6]; exact hg6, Or.inr ⟨by rw [x6]; exact g1, fun p => one (g2 (by rw [← x6]; exact p)), ?_, gpl_py x3 ?_, by rw [x7]; exact hgc, Or.inl ⟨by rw [x6]; exact hg, fun p => ?_⟩⟩⟩
      · unfold lwb; rw [x6]; exact g3
      · unfold gpl; rw [x6]; exact g4
      · rw [x6] at p ⊢
        rw [← hia]
        exact Decidable.byContradiction (fun w => c (Or.inr ⟨p, w⟩))
    · rw [q] at x6 x7
      rw [jj_u_ne (by simp only [aB, aBc]; omega)] at x7
      have r : ∀ s, s ≠ 1 → J (aB 0 b) s = f_go 0 b X (aB 0 b) s := fun s hs => by rw [x6, jj_u_nk hs]
      refine ⟨by rw [r 6 (by decide)]; exact hg6, Or.inr ⟨by rw [r 3 (by decide)]; exact g1, fun p => one (g2 (by rw [← r 3 (by decide)]; exact p)), ?_, gpl_py x3 ?_, by rw [x7]; exact hgc, Or.inr ⟨q1, by rw [x6, jj_u_eq], fun p => ?_, fun p => ?_⟩⟩⟩
      · unfold lwb; rw [r 3 (by decide), r 7 (by decide)]; exact g3
      · unfold gpl; rw [r 4 (by decide), r 7 (by decide)]; exact g4
      · rw [r 3 (by decide)] at p
        rcases c with w | w <;> rw [p] at w <;> exact absurd w.1 (by decide)
      · rw [r 3 (by decide)] at p
        rw [r 4 (by decide), ← hia]
        rcases c with w | w
        · rw [p] at w; exact absurd w.1 (by decide)
        · exact w.2
    · exact ⟨by rw [x6, q6]; exact hg6, Or.inl ⟨by rw [x6]; exact q2, q1, by rw [x6]; exact q3, by rw [x6]; exact q4, by rw [x6]; exact q5, fun g hg => by rw [x7]; exact q7 g hg⟩⟩
end DD
