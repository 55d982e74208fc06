/-! advising: what the steps keep -/
section AD
variable {w H M B N b : Nat} {C : jj_I}
theorem sk_bg (hs : sf w H M B N C) (h : sk w H M B N C) (hb : b < B) : sk w H M B N (f_bg w b B C) := by
  refine sk_bo h (sf_Z hs) hb (fun a e1 e2 e3 => bg_off e1) ?_ ?_
  · unfold f_bg
    split
    · rw [jj_u_nk (by decide)]
    · rfl
  · unfold f_bg
    split
    · intro e; rw [jj_u_eq] at e; exact absurd e (by decide)
    · exact (h.2.1 b hb).1
theorem sk_gl {v : Int32} (hs : sf w H M B N C) (h : sk w H M B N C) (hb : b < B) : sk w H M B N (jj_u C (aB w b) 6 v) := by
  refine sk_bo h (sf_Z hs) hb (fun a e1 e2 e3 => jj_u_ne e1) (by rw [jj_u_nk (by decide)]) ?_
  intro e
  rw [jj_u_nk (by decide)] at e ⊢
  exact (h.2.1 b hb).1 e
theorem sfE_cg {J : jj_I} (e : J (aBe w) = C (aBe w)) (h : sfE w H C) : sfE w H J := fun j hj => by
  rw [e]
  exact h j hj
theorem pd_be {d : Nat} (hs : sf w H M B N C) (h : sk w H M B N C) : f_pd w H B N d C (aBe w) = C (aBe w) := by
  have hB2 := hs.2.2.1.2
  have hN2 := hs.2.2.2.1.2
  have hM2 := hs.2.1.2
  have a1 := it_in (f := f_py w) (S := fun J => (sf w H M B N J ∧ sk w H M B N J) ∧ J (aBe w) = C (aBe w)) ⟨⟨sf_fr (d := d) hs, sk_fr (d := d) h⟩, fr_fr (by simp only [aBe, aIc]; omega)⟩ (N := B) (fun k y hk hy => ⟨⟨sf_py hy.1.1 hk, sk_py hy.1.1 hy.1.2 hk⟩, by
    obtain ⟨o, ho, eo⟩ := (hy.1.2.2.1 k hk).2
    rw [fr_py (by simp only [aBe, aB]; omega) (by rw [eo, nv_nI (by omega)]; simp only [aBe, aM]; omega)]
    exact hy.2⟩) B (Nat.le_refl _)
  have a2 := it_in (f := fun k M => f_bi w k H (f_go w k M)) (S := fun J => (sf w H M B N J ∧ sk w H M B N J) ∧ J (aBe w) = C (aBe w)) a1 (N := B) (fun k y hk hy => ⟨⟨sf_gb hy.1.1 hk, sk_gb hy.1.1 hy.1.2 hk⟩, by
    rw [fr_bi (by simp only [aBe, aB]; omega) (by simp only [aBe, aBc]; omega), fr_go (by simp only [aBe, aB]; omega)]
    exact hy.2⟩) B (Nat.le_refl _)
  have a3 := it_in (f := f_se w) (S := fun J => (sf w H M B N J ∧ sk w H M B N J) ∧ J (aBe w) = C (aBe w)) a2 (N := N) (fun k y hk hy => ⟨⟨sf_se hy.1.1 hk, sk_se hy.1.1 hy.1.2 hk⟩, by
    obtain ⟨⟨a, ha, ea⟩, ⟨q, hq, eq⟩⟩ := hy.1.2.2.2 k hk
    rw [fr_se (by simp only [aBe, aD]; omega) (by rw [eq, nv_nI (by omega)]; simp only [aBe, aM]; omega) (by rw [ea, nv_nI (by omega)]; simp only [aBe, aM]; omega) (by rw [eq, nv_nI (by omega)]; simp only [aBe, aMt]; omega) (by rw [ea, nv_nI (by omega)]; simp only [aBe, aMt]; omega)]
    exact hy.2⟩) N (Nat.le_refl _)
  unfold f_pd
  try dsimp only
  rw [jj_u_ne (by simp only [aBe, aR]; omega)]
  exact a3.2
end AD
section AD2
variable {H M B N d b g n : Nat} {C : jj_I}
def m_hs (H B N b d : Nat) (S : jj_I) (k : Nat) : jj_I := it (fun j S => f_hst H B N b d j S) S k
def m_hl (H M B N b d y g : Nat) (C : jj_I) : Int32 := let S := m_hs H B N b d (f_hb0 M B N b g C) y; if S (aB 1 b) 3 = 3 then 0 else S (aB 1 b) 1
theorem hs_ok {S : jj_I} (hs : sf 1 H M B N S) (hk : sk 1 H M B N S) (he : sfE 1 H S) (hd : S (aR 1) 0 = nI d) (hb : b < B) : ∀ k, sf 1 H M B N (m_hs H B N b d S k) ∧ sk 1 H M B N (m_hs H B N b d S k) ∧ sfE 1 H (m_hs H B N b d S k) ∧ m_hs H B N b d S k (aR 1) 0 = nI (d + k)
  | 0 => ⟨hs, hk, he, hd⟩
  | k + 1 => by
    obtain ⟨h1, h2, h3, h4⟩ := hs_ok hs hk he hd hb k
    have p1 := sf_pd (d := d + k) h1
    have p2 := sk_pd (d := d + k) h1 h2
    refine ⟨sf_bg p1 hb, sk_bg p1 p2 hb, sfE_cg (bg_off (by simp only [aBe, aB]; omega)) (sfE_cg (pd_be h1 h2) h3), ?_⟩
    show f_bg 1 b B (f_pd 1 H B N (d + k) (m_hs H B N b d S k)) (aR 1) 0 = _
    rw [bg_off (by simp only [aR, aB]; omega)]
    exact pd_dy h1 (by omega) h4
theorem hb_ok (hs : sf 0 H M B N C) (hk : sk 0 H M B N C) (he : sfE 0 H C) (hd : C (aR 0) 0 = nI d) (hb : b < B) (hg : g < H) : sf 1 H M B N (jj_u (f_cpW M B N C) (aB 1 b) 6 (nI g)) ∧ sfE 1 H (jj_u (f_cpW M B N C) (aB 1 b) 6 (nI g)) ∧ sf 1 H M B N (f_hb0 M B N b g C) ∧ sk 1 H M B N (f_hb0 M B N b g C) ∧ sfE 1 H (f_hb0 M B N b g C) ∧ f_hb0 M B N b g C (aR 1) 0 = nI d := by
  have q0 := sf_cp hs
  have q1 := sf_gl q0 hb hg
  have e1 := sfE_cg (J := jj_u (f_cpW M B N C) (aB 1 b) 6 (nI g)) (jj_u_ne (by simp only [aBe, aB]; omega)) (sfE_cp hs he)
  refine ⟨q1, e1, sf_bg q1 hb, sk_bg q1 (sk_gl q0 (sk_cp hs hk) hb) hb, sfE_cg (bg_off (by simp only [aBe, aB]; omega)) e1, ?_⟩
  unfold f_hb0
  rw [bg_off (by simp only [aR, aB]; omega), jj_u_ne (by simp only [aR, aB]; omega)]
  exact cp_day hs hd
/-- as it was, and what is kept apart -/
def bq (n : Nat) (S J0 J : jj_I) (H M B N : Nat) (C : jj_I) : Prop := ml 0 H M B N C J ∧ mz M C J ∧ ∀ a, a < 155 ∨ 161 ≤ a → J a = J0 a
theorem bq_bb {S J0 J1 : jj_I} (hn : 161 ≤ n) (z : mlZ M B N) (hm : ml 0 H M B N C S) (hz : mz M C S) (hk : kR n S J0) (k0 : ∀ a, a ≤ n → J0 a = S a) (o : ∀ a, a < 155 ∨ 161 ≤ a → J1 a = J0 a) : bq n S J0 (f_bb n J1) H M B N C := by
  have hk1 : kR n S J1 := by
    obtain ⟨k1, k2, k3, k4, k5, k6⟩ := hk
    exact ⟨(o _ (by omega)).trans k1, (o _ (by omega)).trans k2, (o _ (by omega)).trans k3, (o _ (by omega)).trans k4, (o _ (by omega)).trans k5, (o _ (by omega)).trans k6⟩
  obtain ⟨m1, r⟩ := bb_ok hn z hm hk1 (fun a ha => (o a (Or.inl ha)).trans (k0 a (by omega)))
  obtain ⟨k1, k2, k3, k4, k5, k6⟩ := hk1
  have c : ∀ (f g : Nat → Int32) (len k : Nat), k < len → va_cpy f g 0 0 len k = f k := fun f g len k hk => by
    rw [pk_cpy_in (Nat.zero_le _) (by omega)]
    simp
  refine ⟨m1, mz_cg hz (fun m h1 h2 => ?_) (fun m k h1 h2 h3 => ?_) (fun _ _ _ => rfl), fun a ha => (r a ha).trans (o a ha)⟩
  · unfold f_bb
    rw [jj_uR_ne (by decide), jj_uR_ne (by decide), jj_uR_ne (by decide), jj_uR_ne (by decide), jj_uR_eq, c _ _ _ _ h2, k2]
  · unfold f_bb
    rw [jj_uR_ne (by decide), jj_uR_ne (by decide), jj_uR_ne (by decide), jj_uR_eq, c _ _ _ _ (by omega), k3]
theorem bq_fin {I J0 J : jj_I} (hn : 161 ≤ n) (z : mlZ M B N) (k0 : ∀ a, a ≤ n → J0 a = jj_u I 150 0 0 a) (h : bq n (jj_u I 150 0 0) J0 J H M B N C) : (fun a => if a < n then J a else I a) 150 0 = 0 ∧ ml 0 H M B N C (fun a => if a < n then J a else I a) ∧ mz M C (fun a => if a < n then J a else I a) ∧ ∀ a, offN a → (fun a => if a < n then J a else I a) a = I a := by
  obtain ⟨m1, m2, o⟩ := h
  refine ⟨?_, ml_cg (fun _ _ _ => rfl) (fun a h1 h2 => ⟨fun e => by rw [if_pos (show a < n by omega)]; exact ⟨rfl, rfl, rfl, rfl⟩, fun _ => if_pos (show a < n by omega)⟩) z m1, mz_cg m2 (fun m _ _ => by rw [if_pos (show 156 < n by omega)]) (fun m k _ _ _ => by rw [if_pos (show 157 < n by omega)]) (fun _ _ _ => rfl), fun a ha => ?_⟩
  · show (if 150 < n then J 150 else I 150) 0 = 0
    rw [if_pos (by omega), o 150 (by omega), k0 150 (by omega), jj_u_eq]
  · unfold offN at ha
    by_cases e : a < n
    · show (if a < n then J a else I a) = I a
      rw [if_pos e, o a (by omega), k0 a (by omega), jj_u_ne (by omega)]
    · exact if_neg e
end AD2
