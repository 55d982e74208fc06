/-! the model's boats go, beside the class's -/
section MS
variable {w H M B N : Nat} {C I : jj_I}
theorem ml_uOf {k : Nat} {v : Int32} (h : ml w H M B N C I) (z : mlZ M B N) (hk : k < B) : ml w H M B N (jj_u C (aB w k) 0 v) (jj_u I 158 (12 * k + 0) v) := by
  obtain ⟨h0, h1, h2, h3, h4, h5, h6, h7, h8⟩ := ml_hB h hk
  refine ml_uB h z (Nat.lt_of_lt_of_le hk z.2.1) (fun a e _ => jj_u_ne e) (fun a e => jj_u_ne e) (fun s e => jj_u_nk (by omega)) ?_
  refine ⟨?_, ?_, ?_, ?_, ?_, ?_, ?_, fun e => ?_, fun g hg => ?_⟩
  · rw [jj_u_eq, jj_u_eq]
  · rw [jj_u_nk (by omega), jj_u_nk (by decide)]; exact h1
  · rw [jj_u_nk (by omega), jj_u_nk (by decide)]; exact h2
  · rw [jj_u_nk (by omega), jj_u_nk (by decide)]; exact h3
  · rw [jj_u_nk (by omega), jj_u_nk (by decide)]; exact h4
  · rw [jj_u_nk (by omega), jj_u_nk (by decide)]; exact h5
  · rw [jj_u_nk (by omega), jj_u_nk (by decide)]; exact h6
  · rw [jj_u_nk (by decide)] at e; rw [jj_u_nk (by omega), jj_u_nk (by decide)]; exact h7 e
  · rw [jj_u_nk (by omega), jj_u_ne (by simp only [aB, aBc]; omega)]; exact h8 g hg
theorem ml_uHull {k : Nat} {v : Int32} (h : ml w H M B N C I) (z : mlZ M B N) (hk : k < B) : ml w H M B N (jj_u C (aB w k) 1 v) (jj_u I 158 (12 * k + 1) v) := by
  obtain ⟨h0, h1, h2, h3, h4, h5, h6, h7, h8⟩ := ml_hB h hk
  refine ml_uB h z (Nat.lt_of_lt_of_le hk z.2.1) (fun a e _ => jj_u_ne e) (fun a e => jj_u_ne e) (fun s e => jj_u_nk (by omega)) ?_
  refine ⟨?_, ?_, ?_, ?_, ?_, ?_, ?_, fun e => ?_, fun g hg => ?_⟩
  · rw [jj_u_nk (by omega), jj_u_nk (by decide)]; exact h0
  · rw [jj_u_eq, jj_u_eq]
  · rw [jj_u_nk (by omega), jj_u_nk (by decide)]; exact h2
  · rw [jj_u_nk (by omega), jj_u_nk (by decide)]; exact h3
  · rw [jj_u_nk (by omega), jj_u_nk (by decide)]; exact h4
  · rw [jj_u_nk (by omega), jj_u_nk (by decide)]; exact h5
  · rw [jj_u_nk (by omega), jj_u_nk (by decide)]; exact h6
  · rw [jj_u_nk (by decide)] at e; rw [jj_u_nk (by omega), jj_u_nk (by decide)]; exact h7 e
  · rw [jj_u_nk (by omega), jj_u_ne (by simp only [aB, aBc]; omega)]; exact h8 g hg
theorem ml_uRoom {k : Nat} {v : Int32} (h : ml w H M B N C I) (z : mlZ M B N) (hk : k < B) : ml w H M B N (jj_u C (aB w k) 2 v) (jj_u I 158 (12 * k + 2) v) := by
  obtain ⟨h0, h1, h2, h3, h4, h5, h6, h7, h8⟩ := ml_hB h hk
  refine ml_uB h z (Nat.lt_of_lt_of_le hk z.2.1) (fun a e _ => jj_u_ne e) (fun a e => jj_u_ne e) (fun s e => jj_u_nk (by omega)) ?_
  refine ⟨?_, ?_, ?_, ?_, ?_, ?_, ?_, fun e => ?_, fun g hg => ?_⟩
  · rw [jj_u_nk (by omega), jj_u_nk (by decide)]; exact h0
  · rw [jj_u_nk (by omega), jj_u_nk (by decide)]; exact h1
  · rw [jj_u_eq, jj_u_eq]
  · rw [jj_u_nk (by omega), jj_u_nk (by decide)]; exact h3
  · rw [jj_u_nk (by omega), jj_u_nk (by decide)]; exact h4
  · rw [jj_u_nk (by omega), jj_u_nk (by decide)]; exact h5
  · rw [jj_u_nk (by omega), jj_u_nk (by decide)]; exact h6
  · rw [jj_u_nk (by decide)] at e; rw [jj_u_nk (by omega), jj_u_nk (by decide)]; exact h7 e
  · rw [jj_u_nk (by omega), jj_u_ne (by simp only [aB, aBc]; omega)]; exact h8 g hg
theorem ml_uSt {k : Nat} {v : Int32} (h : ml w H M B N C I) (z : mlZ M B N) (hk : k < B) (hv : v ≠ 2) : ml w H M B N (jj_u C (aB w k) 3 v) (jj_u I 158 (12 * k + 3) v) := by
  obtain ⟨h0, h1, h2, h3, h4, h5, h6, h7, h8⟩ := ml_hB h hk
  refine ml_uB h z (Nat.lt_of_lt_of_le hk z.2.1) (fun a e _ => jj_u_ne e) (fun a e => jj_u_ne e) (fun s e => jj_u_nk (by omega)) ?_
  refine ⟨?_, ?_, ?_, ?_, ?_, ?_, ?_, fun e => ?_, fun g hg => ?_⟩
  · rw [jj_u_nk (by omega), jj_u_nk (by decide)]; exact h0
  · rw [jj_u_nk (by omega), jj_u_nk (by decide)]; exact h1
  · rw [jj_u_nk (by omega), jj_u_nk (by decide)]; exact h2
  · rw [jj_u_eq, jj_u_eq]
  · rw [jj_u_nk (by omega), jj_u_nk (by decide)]; exact h4
  · rw [jj_u_nk (by omega), jj_u_nk (by decide)]; exact h5
  · rw [jj_u_nk (by omega), jj_u_nk (by decide)]; exact h6
  · rw [jj_u_eq] at e; exact absurd e hv
  · rw [jj_u_nk (by omega), jj_u_ne (by simp only [aB, aBc]; omega)]; exact h8 g hg
theorem ml_uAt {k : Nat} {v : Int32} (h : ml w H M B N C I) (z : mlZ M B N) (hk : k < B) : ml w H M B N (jj_u C (aB w k) 4 v) (jj_u I 158 (12 * k + 4) v) := by
  obtain ⟨h0, h1, h2, h3, h4, h5, h6, h7, h8⟩ := ml_hB h hk
  refine ml_uB h z (Nat.lt_of_lt_of_le hk z.2.1) (fun a e _ => jj_u_ne e) (fun a e => jj_u_ne e) (fun s e => jj_u_nk (by omega)) ?_
  refine ⟨?_, ?_, ?_, ?_, ?_, ?_, ?_, fun e => ?_, fun g hg => ?_⟩
  · rw [jj_u_nk (by omega), jj_u_nk (by decide)]; exact h0
  · rw [jj_u_nk (by omega), jj_u_nk (by decide)]; exact h1
  · rw [jj_u_nk (by omega), jj_u_nk (by decide)]; exact h2
  · rw [jj_u_nk (by omega), jj_u_nk (by decide)]; exact h3
  · rw [jj_u_eq, jj_u_eq]
  · rw [jj_u_nk (by omega), jj_u_nk (by decide)]; exact h5
  · rw [jj_u_nk (by omega), jj_u_nk (by decide)]; exact h6
  · rw [jj_u_nk (by decide)] at e; rw [jj_u_nk (by omega), jj_u_nk (by decide)]; exact h7 e
  · rw [jj_u_nk (by omega), jj_u_ne (by simp only [aB, aBc]; omega)]; exact h8 g hg
theorem ml_uGoal {k : Nat} {v : Int32} (h : ml w H M B N C I) (z : mlZ M B N) (hk : k < B) : ml w H M B N (jj_u C (aB w k) 6 v) (jj_u I 158 (12 * k + 5) v) := by
  obtain ⟨h0, h1, h2, h3, h4, h5, h6, h7, h8⟩ := ml_hB h hk
  refine ml_uB h z (Nat.lt_of_lt_of_le hk z.2.1) (fun a e _ => jj_u_ne e) (fun a e => jj_u_ne e) (fun s e => jj_u_nk (by omega)) ?_
  refine ⟨?_, ?_, ?_, ?_, ?_, ?_, ?_, fun e => ?_, fun g hg => ?_⟩
  · rw [jj_u_nk (by omega), jj_u_nk (by decide)]; exact h0
  · rw [jj_u_nk (by omega), jj_u_nk (by decide)]; exact h1
  · rw [jj_u_nk (by omega), jj_u_nk (by decide)]; exact h2
  · rw [jj_u_nk (by omega), jj_u_nk (by decide)]; exact h3
  · rw [jj_u_nk (by omega), jj_u_nk (by decide)]; exact h4
  · rw [jj_u_eq, jj_u_eq]
  · rw [jj_u_nk (by omega), jj_u_nk (by decide)]; exact h6
  · rw [jj_u_nk (by decide)] at e; rw [jj_u_nk (by omega), jj_u_nk (by decide)]; exact h7 e
  · rw [jj_u_nk (by omega), jj_u_ne (by simp only [aB, aBc]; omega)]; exact h8 g hg
theorem ml_uLeft {k : Nat} {v : Int32} (h : ml w H M B N C I) (z : mlZ M B N) (hk : k < B) : ml w H M B N (jj_u C (aB w k) 7 v) (jj_u I 158 (12 * k + 6) v) := by
  obtain ⟨h0, h1, h2, h3, h4, h5, h6, h7, h8⟩ := ml_hB h hk
  refine ml_uB h z (Nat.lt_of_lt_of_le hk z.2.1) (fun a e _ => jj_u_ne e) (fun a e => jj_u_ne e) (fun s e => jj_u_nk (by omega)) ?_
  refine ⟨?_, ?_, ?_, ?_, ?_, ?_, ?_, fun e => ?_, fun g hg => ?_⟩
  · rw [jj_u_nk (by omega), jj_u_nk (by decide)]; exact h0
  · rw [jj_u_nk (by omega), jj_u_nk (by decide)]; exact h1
  · rw [jj_u_nk (by omega), jj_u_nk (by decide)]; exact h2
  · rw [jj_u_nk (by omega), jj_u_nk (by decide)]; exact h3
  · rw [jj_u_nk (by omega), jj_u_nk (by decide)]; exact h4
  · rw [jj_u_nk (by omega), jj_u_nk (by decide)]; exact h5
  · rw [jj_u_eq, jj_u_eq]
  · rw [jj_u_nk (by decide)] at e; rw [jj_u_nk (by omega), jj_u_nk (by decide)]; exact h7 e
  · rw [jj_u_nk (by omega), jj_u_ne (by simp only [aB, aBc]; omega)]; exact h8 g hg
theorem ml_uOn {k : Nat} {v : Int32} (h : ml w H M B N C I) (z : mlZ M B N) (hk : k < B) : ml w H M B N (jj_u C (aB w k) 5 v) (jj_u I 158 (12 * k + 7) v) := by
  obtain ⟨h0, h1, h2, h3, h4, h5, h6, h7, h8⟩ := ml_hB h hk
  refine ml_uB h z (Nat.lt_of_lt_of_le hk z.2.1) (fun a e _ => jj_u_ne e) (fun a e => jj_u_ne e) (fun s e => jj_u_nk (by omega)) ?_
  refine ⟨?_, ?_, ?_, ?_, ?_, ?_, ?_, fun e => ?_, fun g hg => ?_⟩
  · rw [jj_u_nk (by omega), jj_u_nk (by decide)]; exact h0
  · rw [jj_u_nk (by omega), jj_u_nk (by decide)]; exact h1
  · rw [jj_u_nk (by omega), jj_u_nk (by decide)]; exact h2
  · rw [jj_u_nk (by omega), jj_u_nk (by decide)]; exact h3
  · rw [jj_u_nk (by omega), jj_u_nk (by decide)]; exact h4
  · rw [jj_u_nk (by omega), jj_u_nk (by decide)]; exact h5
  · rw [jj_u_nk (by omega), jj_u_nk (by decide)]; exact h6
  · rw [jj_u_eq, jj_u_eq]
  · rw [jj_u_nk (by omega), jj_u_ne (by simp only [aB, aBc]; omega)]; exact h8 g hg
theorem ml_uLoad {k c : Nat} {v : Int32} (h : ml w H M B N C I) (z : mlZ M B N) (hk : k < B) (hc : c < 4) : ml w H M B N (jj_u C (aBc w k) c v) (jj_u I 158 (12 * k + (8 + c)) v) := by
  obtain ⟨h0, h1, h2, h3, h4, h5, h6, h7, h8⟩ := ml_hB h hk
  have e1 : jj_u C (aBc w k) c v (aB w k) = C (aB w k) := jj_u_ne (by simp only [aB, aBc]; omega)
  refine ml_uB h z (Nat.lt_of_lt_of_le hk z.2.1) (fun a _ e => jj_u_ne e) (fun a e => jj_u_ne e) (fun s e => jj_u_nk (by omega)) ?_
  unfold mlB
  rw [e1, jj_u_nk (by omega), jj_u_nk (by omega), jj_u_nk (by omega), jj_u_nk (by omega), jj_u_nk (by omega), jj_u_nk (by omega), jj_u_nk (by omega), jj_u_nk (by omega)]
  refine ⟨h0, h1, h2, h3, h4, h5, h6, h7, fun g hg => ?_⟩
  by_cases e : g = c
  · subst e; rw [jj_u_eq, jj_u_eq]
  · rw [jj_u_nk (by omega), jj_u_nk e]; exact h8 g hg
theorem jj_u_comm {I : jj_I} {a b j k : Nat} {v x : Int32} (h : a ≠ b ∨ j ≠ k) : jj_u (jj_u I a j v) b k x = jj_u (jj_u I b k x) a j v := by
  funext q s
  unfold jj_u
  by_cases h1 : q = b ∧ s = k
  · by_cases h2 : q = a ∧ s = j
    · exact absurd h (by omega)
    · rw [if_pos h1, if_neg h2, if_pos h1]
  · by_cases h2 : q = a ∧ s = j
    · rw [if_neg h1, if_pos h2, if_pos h2]
    · rw [if_neg h1, if_neg h2, if_neg h2, if_neg h1]
/-- it sets out -/
theorem ml_so {k : Nat} {x y v : Int32} (h : ml w H M B N C I) (z : mlZ M B N) (hk : k < B) : ml w H M B N (jj_u (jj_u (jj_u (jj_u C (aB w k) 3 2) (aB w k) 5 x) (aB w k) 4 y) (aB w k) 7 v) (jj_u (jj_u (jj_u (jj_u I 158 (12 * k + 3) 2) 158 (12 * k + 7) x) 158 (12 * k + 6) v) 158 (12 * k + 4) y) := by
  rw [jj_u_comm (a := aB w k) (b := aB w k) (j := 4) (k := 7) (Or.inr (by decide))]
  refine ml_uAt (ml_uLeft ?_ z hk) z hk
  obtain ⟨h0, h1, h2, h3, h4, h5, h6, h7, h8⟩ := ml_hB h hk
  refine ml_uB h z (Nat.lt_of_lt_of_le hk z.2.1) (fun a e _ => (jj_u_ne e).trans (jj_u_ne e)) (fun a e => (jj_u_ne e).trans (jj_u_ne e)) (fun s e => (jj_u_nk (by omega)).trans (jj_u_nk (by omega))) ?_
  refine ⟨?_, ?_, ?_, ?_, ?_, ?_, ?_, fun e => ?_, fun g hg => ?_⟩
  · rw [jj_u_nk (by omega), jj_u_nk (by omega), jj_u_nk (by decide), jj_u_nk (by decide)]; exact h0
  · rw [jj_u_nk (by omega), jj_u_nk (by omega), jj_u_nk (by decide), jj_u_nk (by decide)]; exact h1
  · rw [jj_u_nk (by omega), jj_u_nk (by omega), jj_u_nk (by decide), jj_u_nk (by decide)]; exact h2
  · rw [jj_u_nk (by omega), jj_u_eq, jj_u_nk (by decide), jj_u_eq]
  · rw [jj_u_nk (by omega), jj_u_nk (by omega), jj_u_nk (by decide), jj_u_nk (by decide)]; exact h4
  · rw [jj_u_nk (by omega), jj_u_nk (by omega), jj_u_nk (by decide), jj_u_nk (by decide)]; exact h5
  · rw [jj_u_nk (by omega), jj_u_nk (by omega), jj_u_nk (by decide), jj_u_nk (by decide)]; exact h6
  · rw [jj_u_eq, jj_u_eq]
  · rw [jj_u_nk (by omega), jj_u_nk (by omega), jj_u_ne (by simp only [aB, aBc]; omega), jj_u_ne (by simp only [aB, aBc]; omega)]; exact h8 g hg
theorem ml_load0 {k : Nat} (h : ml w H M B N C I) (z : mlZ M B N) (hk : k < B) : ∀ n, n ≤ 4 → ml w H M B N (it (fun g S => jj_u S (aBc w k) g 0) C n) (it (fun g S => jj_u S 158 (12 * k + (8 + g)) 0) I n)
  | 0, _ => h
  | n + 1, hn => ml_uLoad (ml_load0 h z hk n (by omega)) z hk (by omega)
theorem jm_ol {j : Nat} (h : ml w H M B N C I) (hj : j < 7) : m_ol I j = q_ol w C j := by
  unfold m_ol q_ol
  rw [ml_hIce h hj]
theorem jm_ia {j : Nat} (h : ml w H M B N C I) (hH : H ≤ 8) (hj : j < H) : m_ia j H I = f_ia w j H C := by
  unfold m_ia f_ia
  by_cases e : H = 1
  · rw [if_pos e, if_pos (show H ≤ 1 by omega)]
  · rw [if_neg e, if_neg (show ¬ H ≤ 1 by omega)]
    have e2 : (if j < H - 2 then j else H - 2) < 7 := by split <;> omega
    exact ml_hIce h e2
theorem jm_p2 {x : Int32} (hp : x = 0 ∨ x = 1 ∨ x = 2 ∨ x = 3) (h3 : ¬ x = 3) (h : ¬ x < 2) : x = 2 := by
  rcases hp with rfl | rfl | rfl | rfl
  · exact absurd (by decide) h
  · exact absurd (by decide) h
  · rfl
  · exact absurd rfl h3
theorem jm_p01 {x : Int32} (hp : x = 0 ∨ x = 1 ∨ x = 2 ∨ x = 3) (h : x < 2) : x = 0 ∨ x = 1 := by
  rcases hp with rfl | rfl | rfl | rfl
  · exact Or.inl rfl
  · exact Or.inr rfl
  · exact absurd h (by decide)
  · exact absurd h (by decide)
theorem jm_n2 {x : Int32} (h : x = 0 ∨ x = 1) : ¬ x = 2 := by rcases h with rfl | rfl <;> decide
theorem gb_3 {b : Nat} (h : C (aB w b) 3 = 3) : f_bi w b H (f_go w b C) = C := by
  have h1 : f_g1 w b C = C := by
    unfold f_g1
    rw [if_neg (by rw [h]; rintro ⟨e | e, -⟩ <;> exact absurd e (by decide)), if_neg (by rw [h]; rintro ⟨e, -⟩; exact absurd e (by decide))]
  have h2 : f_go w b C = C := by
    unfold f_go
    rw [h1]
    unfold f_g2
    rw [if_neg (by rw [h]; rintro ⟨e, -⟩; exact absurd e (by decide))]
  rw [h2]
  unfold f_bi
  rw [if_neg (by rw [h]; rintro ⟨e, -⟩; exact absurd e (by decide)), if_neg (by rw [h]; rintro ⟨e, -⟩; exact absurd e (by decide))]
theorem g2_0 {b : Nat} (h : ¬ C (aB w b) 3 = 2) : f_g2 w b C = C := if_neg (fun e => h e.1)
theorem g2_1 {b : Nat} (h : 0 < C (aB w b) 7) : f_g2 w b C = C := if_neg (fun e => e.2 h)
theorem g2_2 {b : Nat} (h : C (aB w b) 3 = 2) (h7 : ¬ 0 < C (aB w b) 7) : f_g2 w b C = jj_u C (aB w b) 3 0 := if_pos ⟨h, h7⟩
theorem go_at {b : Nat} (h : C (aB w b) 3 = 0 ∨ C (aB w b) 3 = 1) (e : C (aB w b) 4 = C (aB w b) 6) : f_go w b C = C := by
  unfold f_go f_g1
  rw [if_neg (fun q => q.2 e), if_neg (fun q => jm_n2 h q.1)]
  exact g2_0 (jm_n2 h)
theorem g1_so {b : Nat} (h : C (aB w b) 3 = 0 ∨ C (aB w b) 3 = 1) (e : ¬ C (aB w b) 4 = C (aB w b) 6) : f_g1 w b C = f_so w b C := if_pos ⟨h, e⟩
theorem g1_on {b : Nat} (h : C (aB w b) 3 = 2) : f_g1 w b C = if q_ol w C (nv (C (aB w b) 5)) = 0 then C else jj_u C (aB w b) 7 (C (aB w b) 7 - 1) := by
  unfold f_g1
  rw [if_neg (by rw [h]; rintro ⟨e | e, -⟩ <;> exact absurd e (by decide))]
  by_cases q : q_ol w C (nv (C (aB w b) 5)) = 0
  · rw [if_pos q, if_neg (fun e => e.2 q)]
  · rw [if_neg q, if_pos ⟨h, q⟩]
theorem so_dn {b h t : Nat} (h4 : C (aB w b) 4 = nI h) (hh : h < 8) (hlt : C (aB w b) 4 < C (aB w b) 6) (hq : ¬ q_ol w C h = 0) (ht : C (aLd w) h = nI t) (t1 : 1 ≤ t) : f_so w b C = jj_u (jj_u (jj_u (jj_u C (aB w b) 3 2) (aB w b) 5 (nI h)) (aB w b) 4 (nI (h + 1))) (aB w b) 7 (nI (t - 1)) := by
  unfold f_so
  rw [if_pos hlt, h4, nv_nI (by omega), if_neg hq]
  dsimp only
  rw [jj_u_nk (by decide), jj_u_nk (by decide), h4, nI_1]
  unfold f_do
  rw [if_neg (by decide), jj_u_ne (by simp only [aLd, aB]; omega), jj_u_ne (by simp only [aLd, aB]; omega), jj_u_ne (by simp only [aLd, aB]; omega), ht, show t = (t - 1) + 1 by omega, nI_pred]
  rfl
theorem so_up {b h t : Nat} (h4 : C (aB w b) 4 = nI (h + 1)) (hh : h < 8) (hlt : ¬ C (aB w b) 4 < C (aB w b) 6) (hq : ¬ q_ol w C h = 0) (ht : C (aLd w) h = nI t) (t1 : 1 ≤ t) : f_so w b C = jj_u (jj_u (jj_u (jj_u C (aB w b) 3 2) (aB w b) 5 (nI h)) (aB w b) 4 (nI h)) (aB w b) 7 (nI (2 * t - 1)) := by
  unfold f_so
  rw [if_neg hlt, h4, nI_pred, nv_nI (by omega), if_neg hq]
  dsimp only
  rw [jj_u_nk (by decide), jj_u_nk (by decide), h4, nI_pred]
  unfold f_do
  rw [if_pos rfl, jj_u_ne (by simp only [aLd, aB]; omega), jj_u_ne (by simp only [aLd, aB]; omega), jj_u_ne (by simp only [aLd, aB]; omega), ht, show (2 : Int32) = nI 2 from rfl, pk_mul, show 2 * t = (2 * t - 1) + 1 by omega, nI_pred]
  rfl
theorem so_cl {b h : Nat} (h4 : nv (if C (aB w b) 4 < C (aB w b) 6 then C (aB w b) 4 else C (aB w b) 4 - 1) = h) (hq : q_ol w C h = 0) : f_so w b C = C := by
  subst h4
  unfold f_so
  by_cases hlt : C (aB w b) 4 < C (aB w b) 6
  · rw [if_pos hlt] at hq ⊢
    rw [if_pos hq]
  · rw [if_neg hlt] at hq ⊢
    rw [if_pos hq]
/-- on its way a boat has days to go -/
def sfG (w : Nat) (C : jj_I) (b : Nat) : Prop := C (aB w b) 3 = 2 → ∃ t, 1 ≤ t ∧ t ≤ 18 ∧ C (aB w b) 7 = nI t
end MS
