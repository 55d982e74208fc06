/-! advising, both the same -/
theorem hs_dead {H M B N b d : Nat} {S : jj_I} (ok : ∀ k, sf 1 H M B N (m_hs H B N b d S k) ∧ sk 1 H M B N (m_hs H B N b d S k)) (hb : b < B) {k : Nat} (h3 : m_hs H B N b d S k (aB 1 b) 3 = 3) : ∀ i, m_hs H B N b d S (k + i) (aB 1 b) 3 = 3
  | 0 => h3
  | i + 1 => by
    have h := hs_dead ok hb h3 i
    have p := pd_sunk (d := d + (k + i)) (ok (k + i)).1 (ok (k + i)).2 hb h
    show f_bg 1 b B (f_pd 1 H B N (d + (k + i)) (m_hs H B N b d S (k + i))) (aB 1 b) 3 = 3
    rw [bg_n (fun e => by rw [e.1] at p; exact absurd p (by decide))]
    exact p
theorem hbs_eq {H M B N b d : Nat} {S : jj_I} (ok : ∀ k, sf 1 H M B N (m_hs H B N b d S k) ∧ sk 1 H M B N (m_hs H B N b d S k)) (hb : b < B) (h30 : ∀ k, m_hs H B N b d S k (aB 1 b) 3 = 3 → m_hs H B N b d S k (aB 1 b) 1 = 0) : ∀ m k, f_hbs H B N b d m k (m_hs H B N b d S k) (aB 1 b) 1 = if m_hs H B N b d S (k + m) (aB 1 b) 3 = 3 then 0 else m_hs H B N b d S (k + m) (aB 1 b) 1 := by
  intro m
  induction m with
  | zero =>
    intro k
    show m_hs H B N b d S k (aB 1 b) 1 = if m_hs H B N b d S k (aB 1 b) 3 = 3 then 0 else m_hs H B N b d S k (aB 1 b) 1
    by_cases h3 : m_hs H B N b d S k (aB 1 b) 3 = 3
    · rw [if_pos h3, h30 k h3]
    · rw [if_neg h3]
  | succ m ih =>
    intro k
    by_cases h3 : m_hs H B N b d S k (aB 1 b) 3 = 3
    · rw [if_pos (hs_dead ok hb h3 (m + 1))]
      simp only [f_hbs, if_pos h3]
      exact h30 k h3
    · simp only [f_hbs, if_neg h3]
      have e := ih (k + 1)
      rw [show k + 1 + m = k + (m + 1) by omega] at e
      exact e
theorem hl_eq {H M B N b d y g : Nat} {I : jj_I} (hs : sf 0 H M B N I) (hk : sk 0 H M B N I) (he : sfE 0 H I) (hd : I (aR 0) 0 = nI d) (hb : b < B) (hg : g < H) (h30 : ∀ k, m_hs H B N b d (f_hb0 M B N b g I) k (aB 1 b) 3 = 3 → m_hs H B N b d (f_hb0 M B N b g I) k (aB 1 b) 1 = 0) : f_hl H M B N b d y g I = m_hl H M B N b d y g I := by
  obtain ⟨-, -, u3, u4, u5, u6⟩ := hb_ok hs hk he hd hb hg
  have e := hbs_eq (S := f_hb0 M B N b g I) (fun k => ⟨(hs_ok u3 u4 u5 u6 hb k).1, (hs_ok u3 u4 u5 u6 hb k).2.1⟩) hb h30 y 0
  rw [Nat.zero_add] at e
  exact e
