/-! words of the day's checks -/
theorem ib_ge {x t : Int32} (h : 0 ≤ t) : (if 0 < (if x - 2 * t < 60 then x - 2 * t else 60) then (if x - 2 * t < 60 then x - 2 * t else 60) else 0) = f_ib x t := by
  unfold f_ib
  try dsimp only
  rw [if_neg (Int32.not_lt.mpr h)]
theorem ib_lt {x t : Int32} (h : ¬ 0 ≤ t) : (if 0 < (if x - t < 60 then x - t else 60) then (if x - t < 60 then x - t else 60) else 0) = f_ib x t := by
  unfold f_ib
  try dsimp only
  rw [if_pos (Int32.not_le.mp h)]
section EC
variable {H M B N t0 t d : Nat} {C I : jj_I}
theorem ck_sums (tC : tn_c t0 H M B N C) (hw : lw B C) (he : eqT I (f_pd 0 H B N d C)) : sm (g_go B N I) M = sm (g_go B N C) M - sm (g_lo C (f_pd 0 H B N d C)) B ∧ g_cs M I ≤ g_cs M C ∧ g_cs M C - sm (q_bi 0 1 C) B ≤ g_cs M I ∧ sm (s_op I) N ≤ sm (s_op C) N ∧ ∀ k, k < N → dbd k C I := by
  have hM2 := tC.1.2.1.2
  have hB2 := tC.1.2.2.1.2
  have hN2 := tC.1.2.2.2.1.2
  have eT := he
  have hd : ∀ b, b < B → dayB H b C (f_pd 0 H B N d C) := fun b hb => day_d tC.1 tC.2.1 hb (hw b hb) (tC.2.2.2.2.1 b hb).1
  have hdb : ∀ k, k < N → dbd k C I := fun k hk => by
    have := db_d (d := d) tC.1 tC.2.1 hk
    unfold dbd at this ⊢
    rw [he (aD 0 k) (by simp only [aD]; omega)]
    exact this
  obtain ⟨c, c1, k, e1, e2, e3, l1, l2, l3, l4⟩ := cs_pd (d := d) tC.1 tC.2.1 tC.2.2.2.1 tC.2.2.2.2
  have eI : g_cs M I = nI c1 := (cs_off (fun m hm => he _ (by simp only [aM]; omega))).trans e2
  refine ⟨?_, ?_, ?_, op_le hdb hN2, hdb⟩
  · rw [← go_pd tC.1 tC.2.1 hd]
    exact sm_congr (fun m hm => by unfold g_go; rw [mf_e (w := 4) eT hB2 hN2 (by omega), mf_e (w := 5) eT hB2 hN2 (by omega)])
  · rw [eI, e1]; exact nI_le l1 (by omega)
  · rw [eI, e1, show sm (q_bi 0 1 C) B = nI k from e3]
    exact i_sub_le l2 (by omega) (by omega) (by omega)
theorem ck_pos (tI : tn_c t H M B N I) : (∀ m, m < 5 → 0 ≤ I (aM 0 m) 0) ∧ ∀ m, m < 5 → ∀ c, c < 32 → 0 ≤ I (aMt 0 m) c := by
  have g := tI.2.2.2.1
  refine ⟨fun m hm => ?_, fun m hm c hc => ?_⟩
  · rw [g.2.2.1 m hm]; exact nI_pos' (by have := tg_C g hm; omega)
  · rw [g.2.2.2.1 m hm c hc]; exact nI_pos' (by have := tg_S g hm hc; omega)
theorem ck_debt {k : Nat} (h : dbd k C I) (hd : C (aR 0) 0 = nI d) (h6 : I (aD 0 k) 6 = 0) : nI d < I (aD 0 k) 5 := by
  rcases h with ⟨e, n⟩ | ⟨-, n⟩
  · rw [e] at h6 ⊢
    rw [hd] at n
    exact Int32.not_le.mp (fun q => n ⟨h6, q⟩)
  · exact absurd h6 n
theorem ck_berth {h : Nat} (tI : tn_c t H M B N I) (hh : h < H) : sm (q_bl 0 (nI h) 1 I) B ≤ I (aBe 0) h ∧ sm (q_bl 0 (nI h) 1 I) B ≤ sm (q_bl 0 (nI h) 1 I) B + sm (q_bl 0 (nI h) 0 I) B := by
  have hB2 := tI.1.2.2.1.2
  obtain ⟨e, h1, h2, h3⟩ := tI.2.2.2.2.2.2 h hh
  have e0 : sm (q_bl 0 (nI h) 0 I) B = nI (tn_ts (fun b => if I (aB 0 b) 3 = 0 ∧ I (aB 0 b) 4 = nI h then 1 else 0) B) := tn_sm (fun b _ => by
    unfold q_bl
    by_cases c : I (aB 0 b) 3 = 0 ∧ I (aB 0 b) 4 = nI h
    · rw [if_pos c, if_pos c]; rfl
    · rw [if_neg c, if_neg c]; rfl)
  have b0 := tn_bnd (f := fun b => if I (aB 0 b) 3 = 0 ∧ I (aB 0 b) 4 = nI h then 1 else 0) (c := 1) (n := B) (fun b _ => by split <;> omega)
  rw [e0, h2, tn_tk, nI_add]
  exact ⟨nI_le h3 (by omega), nI_le (by omega) (by omega)⟩
end EC
