/-! numbers: boats -/
def tn_hu (w : Nat) (C : jj_I) (b : Nat) : Prop := (C (aB w b) 3 = 3 → C (aB w b) 1 = 0) ∧ (¬ C (aB w b) 3 = 3 → ∃ h, 1 ≤ h ∧ h ≤ 20 ∧ C (aB w b) 1 = nI h)
def tn_ro (w : Nat) (C : jj_I) (b : Nat) : Prop := ∃ r, r ≤ 60 ∧ C (aB w b) 2 = nI r ∧ tn_ts (fun g => nv (C (aBc w b) g)) 4 ≤ r
def tn_fb (w : Nat) (C : jj_I) (b : Nat) : Prop := C (aB w b) 7 = 0 ∧ ∀ g, g < 4 → C (aBc w b) g = 0
def tn_q (w h : Nat) (C : jj_I) (b : Nat) : Nat := if C (aB w b) 3 = 1 ∧ C (aB w b) 4 = nI h then 1 else 0
def tn_be (w H B : Nat) (C : jj_I) : Prop := ∀ h, h < H → ∃ e, e ≤ 5 ∧ C (aBe w) h = nI e ∧ tn_ts (tn_q w h C) B ≤ e
def tn_b (w H B : Nat) (C : jj_I) : Prop := (∀ b, b < B → tn_hu w C b ∧ tn_ro w C b) ∧ (∀ b, B ≤ b → b < 10 → tn_fb w C b) ∧ tn_be w H B C
section TB
variable {w H M B N t d : Nat} {C J : jj_I}
theorem hu_cg {b : Nat} (h1 : J (aB w b) 3 = C (aB w b) 3) (h2 : J (aB w b) 1 = C (aB w b) 1) (h : tn_hu w C b) : tn_hu w J b := by
  unfold tn_hu
  rw [h1, h2]
  exact h
theorem ro_cg {b : Nat} (h1 : J (aB w b) 2 = C (aB w b) 2) (h2 : J (aBc w b) = C (aBc w b)) (h : tn_ro w C b) : tn_ro w J b := by
  unfold tn_ro
  rw [h1, h2]
  exact h
theorem fb_cg {b : Nat} (h1 : J (aB w b) = C (aB w b)) (h2 : J (aBc w b) = C (aBc w b)) (h : tn_fb w C b) : tn_fb w J b := by
  unfold tn_fb
  rw [h1, h2]
  exact h
/-- nobody comes into a berth -/
theorem be_le (h : tn_be w H B C) (e : J (aBe w) = C (aBe w)) (hb : ∀ b, b < B → J (aB w b) 3 = 1 → C (aB w b) 3 = 1 ∧ J (aB w b) 4 = C (aB w b) 4) : tn_be w H B J := by
  intro q hq
  obtain ⟨x, x1, x2, x3⟩ := h q hq
  refine ⟨x, x1, by rw [e]; exact x2, Nat.le_trans (tn_mono (fun b hb2 => ?_)) x3⟩
  unfold tn_q
  by_cases c : J (aB w b) 3 = 1 ∧ J (aB w b) 4 = nI q
  · obtain ⟨y1, y2⟩ := hb b hb2 c.1
    rw [if_pos c, if_pos ⟨y1, by rw [← y2]; exact c.2⟩]
    exact Nat.le_refl _
  · rw [if_neg c]
    exact Nat.zero_le _
theorem tb_cg (h : tn_b w H B C) (e1 : ∀ b, b < 10 → J (aB w b) = C (aB w b)) (hB : B ≤ 10) (e2 : ∀ b, b < 10 → J (aBc w b) = C (aBc w b)) (e3 : J (aBe w) = C (aBe w)) : tn_b w H B J := by
  obtain ⟨a1, a2, a3⟩ := h
  refine ⟨fun b hb => ⟨hu_cg (by rw [e1 b (by omega)]) (by rw [e1 b (by omega)]) (a1 b hb).1, ro_cg (by rw [e1 b (by omega)]) (e2 b (by omega)) (a1 b hb).2⟩, fun b h1 h2 => fb_cg (e1 b h2) (e2 b h2) (a2 b h1 h2), be_le a3 e3 (fun b hb h1 => ?_)⟩
  rw [e1 b (by omega)] at h1 ⊢
  exact ⟨h1, rfl⟩
/-- only boat k and what is on it changed -/
theorem tb_bo {k : Nat} (h : tn_b w H B C) (hk : k < B) (hB : B ≤ 10) (ho : ∀ b, b < 10 → b ≠ k → J (aB w b) = C (aB w b) ∧ J (aBc w b) = C (aBc w b)) (e3 : J (aBe w) = C (aBe w)) (h1 : tn_hu w J k) (h2 : tn_ro w J k) (h3 : J (aB w k) 3 = 1 → C (aB w k) 3 = 1 ∧ J (aB w k) 4 = C (aB w k) 4) : tn_b w H B J := by
  obtain ⟨a1, a2, a3⟩ := h
  refine ⟨fun b hb => ?_, fun b h1 h2 => ?_, be_le a3 e3 (fun b hb q => ?_)⟩
  · by_cases e : b = k
    · subst e; exact ⟨h1, h2⟩
    · obtain ⟨x, y⟩ := ho b (by omega) e
      exact ⟨hu_cg (by rw [x]) (by rw [x]) (a1 b hb).1, ro_cg (by rw [x]) y (a1 b hb).2⟩
  · obtain ⟨x, y⟩ := ho b h2 (by omega)
    exact fb_cg x y (a2 b h1 h2)
  · by_cases e : b = k
    · subst e; exact h3 q
    · rw [(ho b (by omega) e).1] at q ⊢
      exact ⟨q, rfl⟩
/-! a day's steps -/
/-- what f_go leaves of boat k -/
theorem go_sl {k s : Nat} (h : s = 0 ∨ s = 1 ∨ s = 2 ∨ s = 6) : f_go w k C (aB w k) s = C (aB w k) s := by
  have hs : f_so w k C (aB w k) s = C (aB w k) s := by
    unfold f_so
    dsimp only
    split <;> split <;> first | rfl | rw [jj_u_nk (by omega), jj_u_nk (by omega), jj_u_nk (by omega), jj_u_nk (by omega)]
  have h1 : f_g1 w k C (aB w k) s = C (aB w k) s := by
    unfold f_g1
    split
    · exact hs
    · split
      · rw [jj_u_nk (by omega)]
      · rfl
  unfold f_go f_g2
  split
  · rw [jj_u_nk (by omega)]; exact h1
  · exact h1
/-- where it is behind f_go -/
theorem go_pl {k : Nat} (hp : C (aB w k) 3 = 0 ∨ C (aB w k) 3 = 1 ∨ C (aB w k) 3 = 2 ∨ C (aB w k) 3 = 3) : (f_go w k C (aB w k) 3 = 3 ↔ C (aB w k) 3 = 3) ∧ (f_go w k C (aB w k) 3 = 1 → C (aB w k) 3 = 1 ∧ f_go w k C (aB w k) 4 = C (aB w k) 4) := by
  have hs : (f_so w k C (aB w k) 3 = 2) ∨ f_so w k C = C := by
    unfold f_so
    dsimp only
    split <;> split <;> first | exact Or.inr rfl | exact Or.inl (by rw [jj_u_nk (by decide), jj_u_nk (by decide), jj_u_nk (by decide), jj_u_eq])
  have h1 : (f_g1 w k C (aB w k) 3 = 2 ∧ ¬ C (aB w k) 3 = 3) ∨ f_g1 w k C = C := by
    unfold f_g1
    split
    · rename_i c
      rcases hs with q | q
      · refine Or.inl ⟨q, fun e => ?_⟩
        rw [e] at c
        exact absurd c.1 (by decide)
      · exact Or.inr q
    · split
      · rename_i c
        refine Or.inl ⟨by rw [jj_u_nk (by decide)]; exact c.1, fun e => ?_⟩
        rw [e] at c
        exact absurd c.1 (by decide)
      · exact Or.inr rfl
  unfold f_go f_g2
  split
  · rename_i c
    rw [jj_u_eq]
    refine ⟨⟨fun e => absurd e (by decide), fun e => ?_⟩, fun e => absurd e (by decide)⟩
    rcases h1 with q | q
    · exact absurd e q.2
    · rw [q, e] at c
      exact absurd c.1 (by decide)
  · rcases h1 with q | q
    · rw [q.1]
      exact ⟨⟨fun e => absurd e (by decide), fun e => absurd e q.2⟩, fun e => absurd e (by decide)⟩
    · rw [q]
      exact ⟨Iff.rfl, fun e => ⟨e, rfl⟩⟩
theorem hu_go {k : Nat} (hp : C (aB w k) 3 = 0 ∨ C (aB w k) 3 = 1 ∨ C (aB w k) 3 = 2 ∨ C (aB w k) 3 = 3) (h : tn_hu w C k) : tn_hu w (f_go w k C) k := by
  have hq := (go_pl hp).1
  unfold tn_hu
  rw [go_sl (s := 1) (by omega)]
  exact ⟨fun e => h.1 (hq.mp e), fun e => h.2 (fun q => e (hq.mpr q))⟩
/-- a boat that loses hull -/
theorem lh_sp {k h : Nat} (h1 : 1 ≤ h) (h2 : h ≤ 20) (e : C (aB w k) 1 = nI h) : (1 < h ∧ f_lh w k C = jj_u C (aB w k) 1 (nI (h - 1))) ∨ (h = 1 ∧ f_lh w k C = it (fun g M => jj_u M (aBc w k) g 0) (jj_u (jj_u (jj_u (jj_u C (aB w k) 1 0) (aB w k) 3 3) (aB w k) 4 (-1)) (aB w k) 7 0) 4) := by
  unfold f_lh
  dsimp only
  rw [jj_u_eq, e, jm_sub1 h1]
  by_cases c : 1 < h
  · rw [if_pos (by rw [← nI_0]; exact nI_lt (by omega) (by omega))]
    exact Or.inl ⟨c, rfl⟩
  · have : h = 1 := by omega
    subst this
    rw [if_neg (by decide)]
    exact Or.inr ⟨rfl, rfl⟩
theorem it_cz {A : Nat} {J : jj_I} : ∀ {n g : Nat}, it (fun g M => jj_u M A g (0 : Int32)) J n A g = if g < n then 0 else J A g
  | 0, g => by rw [if_neg (by omega)]; rfl
  | n + 1, g => by
    show jj_u (it (fun g M => jj_u M A g (0 : Int32)) J n) A n 0 A g = _
    by_cases e : g = n
    · subst e; rw [jj_u_eq, if_pos (by omega)]
    · rw [jj_u_nk e, it_cz]
      by_cases c : g < n
      · rw [if_pos c, if_pos (by omega)]
      · rw [if_neg c, if_neg (by omega)]
theorem hu_lh {k : Nat} (h : tn_hu w C k) (hp : ¬ C (aB w k) 3 = 3) : tn_hu w (f_lh w k C) k := by
  obtain ⟨h0, h1, h2, e⟩ := h.2 hp
  have hne : aB w k ≠ aBc w k := by simp only [aB, aBc]; omega
  rcases lh_sp h1 h2 e with ⟨c, q⟩ | ⟨c, q⟩
  · rw [q]
    refine ⟨fun e3 => ?_, fun _ => ⟨h0 - 1, by omega, by omega, jj_u_eq⟩⟩
    rw [jj_u_nk (by decide)] at e3
    exact absurd e3 hp
  · rw [q]
    refine ⟨fun _ => ?_, fun e3 => ?_⟩
    · rw [it_off hne, jj_u_nk (by decide), jj_u_nk (by decide), jj_u_nk (by decide), jj_u_eq]
    · rw [it_off hne, jj_u_nk (by decide), jj_u_nk (by decide), jj_u_eq] at e3
      exact absurd rfl e3
theorem hu_bi {k : Nat} (h : tn_hu w C k) : tn_hu w (f_bi w k H C) k := by
  unfold f_bi
  split
  · rename_i c
    exact hu_lh h (by rw [c.1]; decide)
  · split
    · rename_i c
      exact hu_lh h (by rw [c.1]; decide)
    · exact h
theorem hu_py {k b : Nat} (ho : ∃ o, o < 5 ∧ C (aB w k) 0 = nI o) (hk : k < 10) (hb : b < 10) (h : tn_hu w C b) : tn_hu w (f_py w k C) b := by
  obtain ⟨o, ho, eo⟩ := ho
  unfold f_py
  rw [eo, nv_nI (by omega)]
  split
  · rename_i c
    split
    · exact hu_cg (by rw [jj_u_ne (by simp only [aB, aM]; omega)]) (by rw [jj_u_ne (by simp only [aB, aM]; omega)]) h
    · by_cases e : b = k
      · subst e
        refine ⟨fun e3 => ?_, fun _ => ?_⟩
        · rw [jj_u_eq] at e3
          exact absurd e3 (by decide)
        · rw [jj_u_nk (by decide)]
          exact h.2 (by rw [c]; decide)
      · exact hu_cg (by rw [jj_u_ne (by simp only [aB]; omega)]) (by rw [jj_u_ne (by simp only [aB]; omega)]) h
  · exact h
/-- a boat's hull along a day -/
theorem hu_pd {b : Nat} (hs : sf w H M B N C) (hk : sk w H M B N C) (hb : b < B) (h : tn_hu w C b) : tn_hu w (f_pd w H B N d C) b := by
  have hB2 := hs.2.2.1.2
  have a0 : tn_hu w (f_fr w H d C) b := hu_cg (by rw [fr_fr (by simp only [aB, aIc]; omega)]) (by rw [fr_fr (by simp only [aB, aIc]; omega)]) h
  have a1 := it_in (f := f_py w) (S := fun J => (sf w H M B N J ∧ sk w H M B N J) ∧ tn_hu w J b) ⟨⟨sf_fr (d := d) hs, sk_fr (d := d) hk⟩, a0⟩ (N := B) (fun k y hk hy => ⟨⟨sf_py hy.1.1 hk, sk_py hy.1.1 hy.1.2 hk⟩, hu_py (hy.1.1.2.2.2.2.1 k hk).1 (by omega) (by omega) hy.2⟩) B (Nat.le_refl _)
  have a2 := it_in (f := fun k M => f_bi w k H (f_go w k M)) (S := fun J => (sf w H M B N J ∧ sk w H M B N J) ∧ tn_hu w J b) a1 (N := B) (fun k y hk hy => ⟨⟨sf_gb hy.1.1 hk, sk_gb hy.1.1 hy.1.2 hk⟩, by
    by_cases e : b = k
    · subst e; exact hu_bi (hu_go (hy.1.1.2.2.2.2.1 b hb).2.1 hy.2)
    · have e1 : f_bi w k H (f_go w k y) (aB w b) = y (aB w b) := (fr_bi (by simp only [aB]; omega) (by simp only [aB, aBc]; omega)).trans (fr_go (by simp only [aB]; omega))
      exact hu_cg (by rw [e1]) (by rw [e1]) hy.2⟩) B (Nat.le_refl _)
  have a3 := it_in (f := f_se w) (S := fun J => (sf w H M B N J ∧ sk w H M B N J) ∧ tn_hu w J b) a2 (N := N) (fun k y hk hy => ⟨⟨sf_se hy.1.1 hk, sk_se hy.1.1 hy.1.2 hk⟩, by
    obtain ⟨⟨a, ha, e0⟩, ⟨q, hq, e1⟩, -⟩ := hy.1.1.2.2.2.2.2 k hk
    have hN2 := hs.2.2.2.1.2
    have e : f_se w k y (aB w b) = y (aB w b) := fr_se (by simp only [aB, aD]; omega) (by rw [e1, nv_nI (by omega)]; simp only [aB, aM]; omega) (by rw [e0, nv_nI (by omega)]; simp only [aB, aM]; omega) (by rw [e1, nv_nI (by omega)]; simp only [aB, aMt]; omega) (by rw [e0, nv_nI (by omega)]; simp only [aB, aMt]; omega)
    exact hu_cg (by rw [e]) (by rw [e]) hy.2⟩) N (Nat.le_refl _)
  exact hu_cg (by unfold f_pd; rw [jj_u_ne (by simp only [aB, aR]; omega)]) (by unfold f_pd; rw [jj_u_ne (by simp only [aB, aR]; omega)]) a3.2
end TB
