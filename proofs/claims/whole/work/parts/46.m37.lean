/-! arriving: once sunk, always sunk -/
theorem pd_sunk {w H M B N d b : Nat} {C : jj_I} (hs : sf w H M B N C) (h : sk w H M B N C) (hb : b < B) (h3 : C (aB w b) 3 = 3) : f_pd w H B N d C (aB w b) 3 = 3 := by
  have hB2 := hs.2.2.1.2
  have hN2 := hs.2.2.2.1.2
  have hM2 := hs.2.1.2
  have a1 := it_in (f := f_py w) (S := fun J => (sf w H M B N J ∧ sk w H M B N J) ∧ J (aB w b) 3 = 3) ⟨⟨sf_fr (d := d) hs, sk_fr (d := d) h⟩, by rw [fr_fr (by simp only [aB, aIc]; omega)]; exact h3⟩ (N := B) (fun k y hk hy => ⟨⟨sf_py hy.1.1 hk, sk_py hy.1.1 hy.1.2 hk⟩, by
    obtain ⟨o, ho, eo⟩ := (hy.1.2.2.1 k hk).2
    by_cases e : k = b
    · subst e
      rw [py_eq eo (by omega), if_neg (by rw [hy.2]; decide)]
      exact hy.2
    · rw [fr_py (by simp only [aB]; omega) (by rw [eo, nv_nI (by omega)]; simp only [aB, aM]; omega)]
      exact hy.2⟩) B (Nat.le_refl _)
  have a2 := it_in (f := fun k M => f_bi w k H (f_go w k M)) (S := fun J => (sf w H M B N J ∧ sk w H M B N J) ∧ J (aB w b) 3 = 3) a1 (N := B) (fun k y hk hy => ⟨⟨sf_gb hy.1.1 hk, sk_gb hy.1.1 hy.1.2 hk⟩, by
    by_cases e : k = b
    · subst e
      rw [gb_3 hy.2]
      exact hy.2
    · rw [fr_bi (by simp only [aB]; omega) (by simp only [aB, aBc]; omega), fr_go (by simp only [aB]; omega)]
      exact hy.2⟩) B (Nat.le_refl _)
  have a3 := it_in (f := f_se w) (S := fun J => (sf w H M B N J ∧ sk w H M B N J) ∧ J (aB w b) 3 = 3) a2 (N := N) (fun k y hk hy => ⟨⟨sf_se hy.1.1 hk, sk_se hy.1.1 hy.1.2 hk⟩, by
    obtain ⟨⟨a, ha, ea⟩, ⟨q, hq, eq⟩⟩ := hy.1.2.2.2 k hk
    rw [fr_se (by simp only [aB, aD]; omega) (by rw [eq, nv_nI (by omega)]; simp only [aB, aM]; omega) (by rw [ea, nv_nI (by omega)]; simp only [aB, aM]; omega) (by rw [eq, nv_nI (by omega)]; simp only [aB, aMt]; omega) (by rw [ea, nv_nI (by omega)]; simp only [aB, aMt]; omega)]
    exact hy.2⟩) N (Nat.le_refl _)
  unfold f_pd
  try dsimp only
  rw [jj_u_ne (by simp only [aB, aR]; omega)]
  exact a3.2
theorem fs_dead {g : Nat → Option Int32} : ∀ {m k : Nat}, (∀ j, k ≤ j → g j = none) → f_fs g m k = -1
  | 0, _, _ => rfl
  | m + 1, k, h => by
    rw [f_fs_n (h k (Nat.le_refl _))]
    exact fs_dead (fun j hj => h j (by omega))
theorem arrives_eq {H M B N b d : Nat} {C : jj_I} (hs : sf 0 H M B N C) (hk : sk 0 H M B N C) (hd : C (aR 0) 0 = nI d) (hb : b < B) : f_fs (g_ar H M B N b d C) 201 0 = f_fs (m_ar H M B N b d C) 201 0 := by
  have hs1 := sf_cp hs
  have dk := ds_ok hs1 (by omega) (cp_day hs hd)
  have dk2 : ∀ k, sk 1 H M B N (f_ds 1 H B N d (f_cpW M B N C) k) := fun k => by
    induction k with
    | zero => exact sk_cp hs hk
    | succ k ih => exact sk_pd (dk k).1 ih
  have dead : ∀ k, f_ds 1 H B N d (f_cpW M B N C) k (aB 1 b) 3 = 3 → ∀ i, f_ds 1 H B N d (f_cpW M B N C) (k + i) (aB 1 b) 3 = 3 := fun k h i => by
    induction i with
    | zero => exact h
    | succ i ih => exact pd_sunk (dk (k + i)).1 (dk2 (k + i)) hb ih
  have key : ∀ m k, f_fs (g_ar H M B N b d C) m k = f_fs (m_ar H M B N b d C) m k := by
    intro m
    induction m with
    | zero => exact fun _ => rfl
    | succ m ih =>
      intro k
      by_cases h3 : f_ds 1 H B N d (f_cpW M B N C) k (aB 1 b) 3 = 3
      · rw [f_fs_s (show g_ar H M B N b d C k = some (-1) by unfold g_ar; dsimp only; rw [if_pos h3]), fs_dead (fun j hj => by
          obtain ⟨i, rfl⟩ : ∃ i, j = k + i := ⟨j - k, by omega⟩
          refine if_neg (fun e => ?_)
          unfold m_tr at e
          have e1 := (of_decide_eq_true e).1
          rw [dead k h3 i] at e1
          exact absurd e1 (by decide))]
      · obtain ⟨-, hp, -⟩ := (dk k).1.2.2.2.2.1 b hb
        by_cases c : f_ds 1 H B N d (f_cpW M B N C) k (aB 1 b) 3 < 2 ∧ f_ds 1 H B N d (f_cpW M B N C) k (aB 1 b) 4 = f_ds 1 H B N d (f_cpW M B N C) k (aB 1 b) 6
        · rw [f_fs_s (show g_ar H M B N b d C k = some (nI k) by unfold g_ar; dsimp only; rw [if_neg h3, if_pos ⟨jm_p01 hp c.1, c.2⟩]), f_fs_s (show m_ar H M B N b d C k = some (nI k) from if_pos (decide_eq_true c))]
        · rw [f_fs_n (show g_ar H M B N b d C k = none by unfold g_ar; dsimp only; rw [if_neg h3, if_neg (fun q => c ⟨by rcases q.1 with e | e <;> rw [e] <;> decide, q.2⟩)]), f_fs_n (show m_ar H M B N b d C k = none from if_neg (fun q => c (of_decide_eq_true q))), ih (k + 1)]
  exact key 201 0
