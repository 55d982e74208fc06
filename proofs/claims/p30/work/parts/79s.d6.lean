/-! a day's goods, coins and debts -/
section DS
variable {H M B N t d : Nat} {C J X Y : jj_I}
theorem sm_up {f g : Nat → Int32} {j : Nat} : ∀ {n : Nat}, j < n → (∀ k, k < n → k ≠ j → g k = f k) → sm g n + f j = sm f n + g j
  | 0, hj, _ => absurd hj (Nat.not_lt_zero _)
  | n + 1, hj, h => by
    show sm g n + g n + f j = sm f n + f n + g j
    by_cases e : j = n
    · subst e
      rw [sm_congr (f := g) (g := f) (fun k hk => h k (by omega) (by omega))]
      ac_rfl
    · have := sm_up (f := f) (g := g) (n := n) (by omega) (fun k hk => h k (by omega))
      rw [h n (by omega) (fun c => e c.symm), show sm g n + f n + f j = (sm g n + f j) + f n by ac_rfl, this]
      ac_rfl
theorem al_1 {a b x m : Int32} (h : a + x = b + (x - m)) : a + m = b := by
  have h2 : a + m + x = b + x := by
    rw [show a + m + x = (a + x) + m by ac_rfl, h, Int32.add_assoc, Int32.sub_add_cancel]
  exact (Int32.add_left_inj x).mp h2
theorem al_2 {a c y m : Int32} (h : c + y = a + (y + m)) : c = a + m := by
  have h2 : c + y = a + m + y := by rw [h]; ac_rfl
  exact (Int32.add_left_inj y).mp h2
theorem al_3 {s s' f f' x v : Int32} (h1 : s' + f = s + f') (h2 : f' + x = f + v) : s' + x = s + v := by
  have h3 : s' + x + f = s + v + f := by
    rw [show s' + x + f = (s' + f) + x by ac_rfl, h1, show s + f' + x = s + (f' + x) by ac_rfl, h2]
    ac_rfl
  exact (Int32.add_left_inj f).mp h3
def g_ss (M : Nat) (C : jj_I) : Int32 := sm (fun m => sm (C (aMt 0 m)) 32) M
theorem ss_u {q c : Nat} {v : Int32} (hq : q < M) (hc : c < 32) : g_ss M (jj_u C (aMt 0 q) c v) + C (aMt 0 q) c = g_ss M C + v := by
  have h1 := sm_up (f := fun m => sm (C (aMt 0 m)) 32) (g := fun m => sm (jj_u C (aMt 0 q) c v (aMt 0 m)) 32) hq (fun k hk hne => by rw [jj_u_ne (by simp only [aMt]; omega)])
  have h2 := sm_up (f := C (aMt 0 q)) (g := jj_u C (aMt 0 q) c v (aMt 0 q)) hc (fun k hk hne => by rw [jj_u_nk hne])
  rw [jj_u_eq] at h2
  exact al_3 h1 h2
theorem ss_off (e : ∀ m, m < M → J (aMt 0 m) = C (aMt 0 m)) : g_ss M J = g_ss M C := sm_congr (fun m hm => by rw [e m hm])
theorem ss_hd {q a c : Nat} {m : Int32} (hq : q < M) (ha : a < M) (hc : c < 32) : g_ss M (f_hd 0 q a c m C) = g_ss M C := by
  unfold f_hd
  have h1 := al_1 (ss_u (C := C) (v := C (aMt 0 q) c - m) hq hc)
  have h2 := al_2 (ss_u (C := jj_u C (aMt 0 q) c (C (aMt 0 q) c - m)) (v := jj_u C (aMt 0 q) c (C (aMt 0 q) c - m) (aMt 0 a) c + m) ha hc)
  exact h2.trans h1
theorem ss_pd (hs : sf 0 H M B N C) (hk : sk 0 H M B N C) : g_ss M (f_pd 0 H B N d C) = g_ss M C := by
  have hH2 := hs.1.2
  have hM2 := hs.2.1.2
  have hB2 := hs.2.2.1.2
  have hN2 := hs.2.2.2.1.2
  refine pd_in (S := fun y => g_ss M y = g_ss M C) hs hk (ss_off (fun m hm => fr_fr (by simp only [aMt, aIc]; omega))) (fun k y q1 q2 q3 q4 => (ss_off (fun m hm => ?_)).trans q4) (fun k y q1 q2 q3 q4 => (ss_off (fun m hm => fr_gb (by simp only [aMt, aB]; omega) (by simp only [aMt, aBc]; omega))).trans q4) (fun k y q1 q2 q3 q4 => ?_) (fun y q4 => (ss_off (fun m hm => jj_u_ne (by simp only [aMt, aR]; omega))).trans q4)
  · obtain ⟨o, ho, eo⟩ := (q2.2.2.2.2.1 k q1).1
    exact fr_py (by simp only [aMt, aB]; omega) (by rw [eo, nv_nI (by omega)]; simp only [aMt, aM]; omega)
  · obtain ⟨⟨a, ha, e0⟩, ⟨q, hq, e1⟩⟩ := q3.2.2 k q1
    obtain ⟨-, -, ⟨x, hx, e2⟩, ⟨g, hg, e3⟩⟩ := q2.2.2.2.2.2 k q1
    refine Eq.trans ?_ q4
    rw [se_eq e0 e1 e2 e3 (by omega) (by omega) (by omega) hg]
    split
    · split
      · split
        · exact ss_off (fun m hm => jj_u_ne (by simp only [aMt, aD]; omega))
        · exact ss_off (fun m hm => by rw [jj_u_ne (by simp only [aMt, aD]; omega), jj_u_ne (by simp only [aMt, aM]; omega), jj_u_ne (by simp only [aMt, aM]; omega)])
      · exact (ss_off (fun m hm => jj_u_ne (by simp only [aMt, aD]; omega))).trans (ss_hd hq ha (by omega))
    · rfl
/-- the goods that merchants and boats have -/
def g_cg (C : jj_I) (b : Nat) : Int32 := sm (C (aBc 0 b)) 4
def g_go (B N : Nat) (C : jj_I) (m : Nat) : Int32 := q_mf m B N C 4 + q_mf m B N C 5
theorem co_1 {b o : Nat} (ho : o < M) (hM : M ≤ 5) (e : C (aB 0 b) 0 = nI o) : sm (fun m => q_co 0 (nI m) C b) M = g_cg C b := by
  rw [sm_pt (f := fun m => q_co 0 (nI m) C b) (q := o) ho (fun k hk hne => if_neg (fun p => hne (by rw [e] at p; have h2 := congrArg nv p; rw [nv_nI (by omega), nv_nI (by omega)] at h2; exact h2.symm)))]
  exact if_pos e
theorem co_eq (hM : M ≤ 5) : ∀ {B : Nat}, (∀ b, b < B → ∃ o, o < M ∧ C (aB 0 b) 0 = nI o) → sm (fun m => sm (q_co 0 (nI m) C) B) M = sm (g_cg C) B
  | 0, _ => sm_z (fun _ _ => rfl)
  | B + 1, h => by
    obtain ⟨o, ho, e⟩ := h B (by omega)
    show sm (fun m => sm (q_co 0 (nI m) C) B + q_co 0 (nI m) C B) M = sm (g_cg C) B + g_cg C B
    rw [sm_add (f := fun m => sm (q_co 0 (nI m) C) B) (g := fun m => q_co 0 (nI m) C B), co_eq hM (fun d hd => h d (by omega)), co_1 ho hM e]
theorem go_eq (hs : sf 0 H M B N C) (hk : sk 0 H M B N C) : sm (g_go B N C) M = g_ss M C + sm (g_cg C) B := by
  rw [← co_eq hs.2.1.2 (fun b hb => (hk.2.1 b hb).2)]
  exact sm_add (f := fun m => sm (C (aMt 0 m)) 32) (g := fun m => sm (q_co 0 (nI m) C) B)
/-- lost with a boat -/
def g_lo (C J : jj_I) (b : Nat) : Int32 := if ¬ C (aB 0 b) 3 = 3 ∧ J (aB 0 b) 3 = 3 then sm (C (aBc 0 b)) 4 else 0
def g_sk (C J : jj_I) (b : Nat) : Int32 := if ¬ C (aB 0 b) 3 = 3 ∧ J (aB 0 b) 3 = 3 then 1 else 0
theorem lo_b {b : Nat} (h : dayB H b C J) : g_cg C b = g_cg J b + g_lo C J b ∧ q_bi 0 3 J b = q_bi 0 3 C b + g_sk C J b := by
  unfold g_cg g_lo g_sk q_bi
  by_cases c : C (aB 0 b) 3 = 3
  · rw [(h.1 c).1, (h.1 c).2, if_neg (show ¬ (¬ C (aB 0 b) 3 = 3 ∧ C (aB 0 b) 3 = 3) from fun q => q.1 q.2), if_neg (show ¬ (¬ C (aB 0 b) 3 = 3 ∧ C (aB 0 b) 3 = 3) from fun q => q.1 q.2)]
    exact ⟨(Int32.add_zero _).symm, (Int32.add_zero _).symm⟩
  · obtain ⟨hu, -, -, -, q⟩ := h.2 c
    rw [if_neg (show ¬ C (aB 0 b) 3 = 3 from c)]
    rcases q with ⟨e3, -, -, -, -, eg⟩ | ⟨e3, -, -, -, ec, -⟩
    · rw [if_pos (show ¬ C (aB 0 b) 3 = 3 ∧ J (aB 0 b) 3 = 3 from ⟨c, e3⟩), if_pos (show J (aB 0 b) 3 = 3 from e3), if_pos (show ¬ C (aB 0 b) 3 = 3 ∧ J (aB 0 b) 3 = 3 from ⟨c, e3⟩), show sm (J (aBc 0 b)) 4 = 0 from sm_z eg]
      exact ⟨(Int32.zero_add _).symm, rfl⟩
    · have n3 : ¬ J (aB 0 b) 3 = 3 := by rcases e3 with e | e | e <;> rw [e] <;> decide
      rw [if_neg (show ¬ (¬ C (aB 0 b) 3 = 3 ∧ J (aB 0 b) 3 = 3) from fun q => n3 q.2), if_neg (show ¬ (¬ C (aB 0 b) 3 = 3 ∧ J (aB 0 b) 3 = 3) from fun q => n3 q.2), if_neg n3, ec]
      exact ⟨(Int32.add_zero _).symm, rfl⟩
theorem go_pd (hs : sf 0 H M B N C) (hk : sk 0 H M B N C) (h : ∀ b, b < B → dayB H b C (f_pd 0 H B N d C)) : sm (g_go B N (f_pd 0 H B N d C)) M = sm (g_go B N C) M - sm (g_lo C (f_pd 0 H B N d C)) B := by
  rw [go_eq hs hk, go_eq (sf_pd hs) (sk_pd hs hk), ss_pd hs hk, sm_congr (f := g_cg C) (g := fun b => g_cg (f_pd 0 H B N d C) b + g_lo C (f_pd 0 H B N d C) b) (fun b hb => (lo_b (h b hb)).1), sm_add (f := g_cg (f_pd 0 H B N d C)) (g := g_lo C (f_pd 0 H B N d C)), ← Int32.add_assoc, Int32.add_sub_cancel]
theorem sk_c (h : ∀ b, b < B → dayB H b C J) : sm (q_bi 0 3 J) B - sm (q_bi 0 3 C) B = sm (g_sk C J) B := by
  rw [sm_congr (f := q_bi 0 3 J) (g := fun b => q_bi 0 3 C b + g_sk C J b) (fun b hb => (lo_b (h b hb)).2), sm_add (f := q_bi 0 3 C) (g := g_sk C J), Int32.add_comm, Int32.add_sub_cancel]
/-- a debt's day -/
def dbd (k : Nat) (C J : jj_I) : Prop := (J (aD 0 k) = C (aD 0 k) ∧ ¬ (C (aD 0 k) 6 = 0 ∧ C (aD 0 k) 5 ≤ C (aR 0) 0)) ∨ (C (aD 0 k) 6 = 0 ∧ ¬ J (aD 0 k) 6 = 0)
theorem db_d {k : Nat} (hs : sf 0 H M B N C) (hk : sk 0 H M B N C) (hN : k < N) : dbd k C (f_pd 0 H B N d C) := by
  have hH2 := hs.1.2
  have hB2 := hs.2.2.1.2
  have hN2 := hs.2.2.2.1.2
  -- the row and the day stay until the debt is settled
  have a0 : ((sf 0 H M B N (f_fr 0 H d C) ∧ sk 0 H M B N (f_fr 0 H d C)) ∧ f_fr 0 H d C (aD 0 k) = C (aD 0 k) ∧ f_fr 0 H d C (aR 0) = C (aR 0)) := ⟨⟨sf_fr hs, sk_fr hk⟩, fr_fr (by simp only [aD, aIc]; omega), fr_fr (by simp only [aR, aIc]; omega)⟩
  have a1 := it_in (f := f_py 0) (S := fun J => (sf 0 H M B N J ∧ sk 0 H M B N J) ∧ J (aD 0 k) = C (aD 0 k) ∧ J (aR 0) = C (aR 0)) a0 (N := B) (fun j y h hy => by
    obtain ⟨o, ho, eo⟩ := (hy.1.1.2.2.2.2.1 j h).1
    exact ⟨⟨sf_py hy.1.1 h, sk_py hy.1.1 hy.1.2 h⟩, (fr_py (by simp only [aD, aB]; omega) (by rw [eo, nv_nI (by omega)]; simp only [aD, aM]; omega)).trans hy.2.1, (fr_py (by simp only [aR, aB]; omega) (by rw [eo, nv_nI (by omega)]; simp only [aR, aM]; omega)).trans hy.2.2⟩) B (Nat.le_refl _)
  have a2 := it_in (f := fun k M => f_bi 0 k H (f_go 0 k M)) (S := fun J => (sf 0 H M B N J ∧ sk 0 H M B N J) ∧ J (aD 0 k) = C (aD 0 k) ∧ J (aR 0) = C (aR 0)) a1 (N := B) (fun j y h hy => ⟨⟨sf_gb hy.1.1 h, sk_gb hy.1.1 hy.1.2 h⟩, (fr_gb (by simp only [aD, aB]; omega) (by simp only [aD, aBc]; omega)).trans hy.2.1, (fr_gb (by simp only [aR, aB]; omega) (by simp only [aR, aBc]; omega)).trans hy.2.2⟩) B (Nat.le_refl _)
  generalize hW : it (fun k M => f_bi 0 k H (f_go 0 k M)) (it (f_py 0) (f_fr 0 H d C) B) B = W at a2
  have fs : ∀ j y, j < N → j ≠ k → sf 0 H M B N y → f_se 0 j y (aD 0 k) = y (aD 0 k) ∧ f_se 0 j y (aR 0) = y (aR 0) := fun j y h hne hy => by
    obtain ⟨⟨o, ho, e0⟩, ⟨q, hq, e1⟩, -⟩ := hy.2.2.2.2.2 j h
    exact ⟨fr_se (by simp only [aD]; omega) (by rw [e1, nv_nI (by omega)]; simp only [aD, aM]; omega) (by rw [e0, nv_nI (by omega)]; simp only [aD, aM]; omega) (by rw [e1, nv_nI (by omega)]; simp only [aD, aMt]; omega) (by rw [e0, nv_nI (by omega)]; simp only [aD, aMt]; omega),
      fr_se (by simp only [aR, aD]; omega) (by rw [e1, nv_nI (by omega)]; simp only [aR, aM]; omega) (by rw [e0, nv_nI (by omega)]; simp only [aR, aM]; omega) (by rw [e1, nv_nI (by omega)]; simp only [aR, aMt]; omega) (by rw [e0, nv_nI (by omega)]; simp only [aR, aMt]; omega)⟩
  have b1 : ∀ j, j ≤ k → (sf 0 H M B N (it (f_se 0) W j) ∧ sk 0 H M B N (it (f_se 0) W j)) ∧ it (f_se 0) W j (aD 0 k) = C (aD 0 k) ∧ it (f_se 0) W j (aR 0) = C (aR 0) := fun j hj => by
    induction j with
    | zero => exact a2
    | succ j ih =>
      obtain ⟨⟨s1, s2⟩, s3, s4⟩ := ih (by omega)
      have f := fs j (it (f_se 0) W j) (by omega) (by omega) s1
      exact ⟨⟨sf_se s1 (show j < N by omega), sk_se s1 s2 (show j < N by omega)⟩, f.1.trans s3, f.2.trans s4⟩
  have sfj : ∀ j, j ≤ N → sf 0 H M B N (it (f_se 0) W j) := fun j hj => (it_in (f := f_se 0) (S := fun J => sf 0 H M B N J) a2.1.1 (N := N) (fun j y h hy => sf_se hy h) j hj)
  have b2 : ∀ j, k < j → j ≤ N → it (f_se 0) W j (aD 0 k) = f_se 0 k (it (f_se 0) W k) (aD 0 k) := fun j h1 h2 => by
    induction j with
    | zero => exact absurd h1 (Nat.not_lt_zero _)
    | succ j ih =>
      by_cases e : k = j
      · subst e; rfl
      · exact (fs j _ (by omega) (fun c => e c.symm) (sfj j (by omega))).1.trans (ih (by omega) (by omega))
  obtain ⟨⟨s1, s2⟩, s3, s4⟩ := b1 k (Nat.le_refl _)
  have top : f_pd 0 H B N d C (aD 0 k) = f_se 0 k (it (f_se 0) W k) (aD 0 k) := by
    unfold f_pd
    rw [jj_u_ne (by simp only [aD, aR]; omega), hW]
    exact b2 N hN (Nat.le_refl _)
  generalize it (f_se 0) W k = V at s1 s2 s3 s4 top
  unfold dbd
  rw [top]
  obtain ⟨⟨a, ha, e0⟩, ⟨q, hq, e1⟩, ⟨x, hx, e2⟩, ⟨g, hg, e3⟩⟩ := s1.2.2.2.2.2 k hN
  rw [se_eq e0 e1 e2 e3 ha hq (by omega) hg]
  by_cases c : V (aD 0 k) 6 = 0 ∧ V (aD 0 k) 5 ≤ V (aR 0) 0
  · refine Or.inr ⟨by rw [← s3]; exact c.1, ?_⟩
    rw [if_pos c]
    split
    · split
      · rw [jj_u_eq]; decide
      · rw [jj_u_eq]; decide
    · rw [jj_u_eq]; decide
  · rw [if_neg c]
    rw [s3, s4] at c
    exact Or.inl ⟨s3, c⟩
theorem op_le (h : ∀ k, k < N → dbd k C J) (hN : N ≤ 30) : sm (s_op J) N ≤ sm (s_op C) N := by
  have e : ∀ Z : jj_I, sm (s_op Z) N = nI (tn_ts (fun k => if Z (aD 0 k) 6 = 0 then 1 else 0) N) := fun Z => tn_sm (fun k _ => by
    unfold s_op
    by_cases c : Z (aD 0 k) 6 = 0
    · rw [if_pos c, if_pos c]; rfl
    · rw [if_neg c, if_neg c]; rfl)
  rw [e J, e C]
  have b := tn_bnd (f := fun k => if C (aD 0 k) 6 = 0 then 1 else 0) (c := 1) (n := N) (fun k _ => by split <;> omega)
  refine nI_le (tn_mono (fun k hk => ?_)) (by omega)
  rcases h k hk with ⟨e, -⟩ | ⟨-, e⟩
  · rw [e]; exact Nat.le_refl _
  · rw [if_neg e]; exact Nat.zero_le _
end DS
