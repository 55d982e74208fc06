/-! a boat's day, in the class's own words -/
section BD
variable {H M B N b d : Nat} {C J X : jj_I}
def lwb (b : Nat) (J : jj_I) : Prop := (¬ J (aB 0 b) 3 = 2 → J (aB 0 b) 7 = 0) ∧ (J (aB 0 b) 3 = 2 → ∃ t, 1 ≤ t ∧ t ≤ 17 ∧ J (aB 0 b) 7 = nI t)
/-- where a boat may be behind its going -/
def gpl (b : Nat) (C J : jj_I) : Prop := (C (aB 0 b) 3 = 2 → J (aB 0 b) 4 = C (aB 0 b) 4 ∧ (J (aB 0 b) 7 = C (aB 0 b) 7 ∨ J (aB 0 b) 7 = C (aB 0 b) 7 - 1)) ∧
  (¬ C (aB 0 b) 3 = 2 → J (aB 0 b) 4 = C (aB 0 b) 4 ∨ ∃ h g p, C (aB 0 b) 4 = nI h ∧ C (aB 0 b) 6 = nI g ∧ J (aB 0 b) 4 = nI p ∧ h < 8 ∧ g < 8 ∧ p < 8 ∧ (h < g ∧ p = h + 1 ∨ g < h ∧ h = p + 1))
def god (b : Nat) (C J : jj_I) : Prop := (J (aB 0 b) 3 = 0 ∨ J (aB 0 b) 3 = 1 ∨ J (aB 0 b) 3 = 2) ∧ (J (aB 0 b) 3 = 1 → C (aB 0 b) 3 = 1) ∧ lwb b J ∧ gpl b C J
theorem go_id (hp : C (aB 0 b) 3 = 0 ∨ C (aB 0 b) 3 = 1 ∨ C (aB 0 b) 3 = 2) (hl : lwb b C) : god b C C := ⟨hp, id, hl, fun _ => ⟨rfl, Or.inl rfl⟩, fun _ => Or.inl rfl⟩
theorem i_n02 : ¬ (0 : Int32) = 2 := by decide
theorem go_d (hf : sf 0 H M B N C) (hk : sk 0 H M B N C) (hl : lwb b C) (hb : b < B) (h3 : ¬ C (aB 0 b) 3 = 3) : god b C (f_go 0 b C) := by
  have hH2 := hf.1.2
  have hB2 := hf.2.2.1.2
  obtain ⟨-, hp4, h4, hl5, ⟨g, hg6, eg⟩⟩ := hf.2.2.2.2.1 b hb
  obtain ⟨h0, hh0, eh⟩ := h4 h3
  have hG := (hk.2.1 b hb).1
  have hL := hk.1
  have hp : C (aB 0 b) 3 = 0 ∨ C (aB 0 b) 3 = 1 ∨ C (aB 0 b) 3 = 2 := by
    rcases hp4 with e | e | e | e
    · exact Or.inl e
    · exact Or.inr (Or.inl e)
    · exact Or.inr (Or.inr e)
    · exact absurd e h3
  have same : f_go 0 b C = C → god b C (f_go 0 b C) := fun e => by rw [e]; exact go_id hp hl
  by_cases h01 : C (aB 0 b) 3 = 0 ∨ C (aB 0 b) 3 = 1
  · have hn2 := jm_n2 h01
    have hid : f_g1 0 b C = C → f_go 0 b C = C := fun e => by unfold f_go; rw [e]; exact g2_no C (fun q => hn2 q.1)
    by_cases e : C (aB 0 b) 4 = C (aB 0 b) 6
    · exact same (hid (by unfold f_g1; rw [if_neg (fun q => q.2 e), if_neg (fun q => hn2 q.1)]))
    · by_cases hlt : C (aB 0 b) 4 < C (aB 0 b) 6
      · have hl0 : h0 < g := jm_dn (by rw [← eg, ← eh]; exact Int32.not_le.mpr hlt) (by omega) (by omega)
        by_cases hq : q_ol 0 C h0 = 0
        · exact same (hid (by rw [g1_so h01 e]; exact so_cl (h := h0) (by rw [if_pos hlt, eh, nv_nI (by omega)]) hq))
        · obtain ⟨t, t1, t2, et⟩ := hL h0 (by omega)
          unfold f_go
          rw [g1_so h01 e, so_dn eh (by omega) hlt hq et t1]
          by_cases t0 : t - 1 = 0
          · rw [g2_2 (by simp [jj_u]) (by rw [jj_u_eq, t0]; decide)]
            refine ⟨Or.inl jj_u_eq, fun q => ?_, ⟨fun _ => ?_, fun q => ?_⟩, fun q => absurd q hn2, fun _ => Or.inr ⟨h0, g, h0 + 1, eh, eg, ?_, by omega, by omega, by omega, Or.inl ⟨hl0, rfl⟩⟩⟩
            · rw [jj_u_eq] at q; exact absurd q (by decide)
            · rw [jj_u_nk (by decide), jj_u_eq, t0]; rfl
            · rw [jj_u_eq] at q; exact absurd q (by decide)
            · rw [jj_u_nk (by decide), jj_u_nk (by decide), jj_u_eq]
          · rw [g2_no _ (fun w => by have w2 := w.2; rw [jj_u_eq, nI_0lt (by omega)] at w2; exact t0 w2)]
            have s2 : jj_u (jj_u (jj_u (jj_u C (aB 0 b) 3 2) (aB 0 b) 5 (nI h0)) (aB 0 b) 4 (nI (h0 + 1))) (aB 0 b) 7 (nI (t - 1)) (aB 0 b) 3 = 2 := by rw [jj_u_nk (by decide), jj_u_nk (by decide), jj_u_nk (by decide), jj_u_eq]
            refine ⟨Or.inr (Or.inr s2), fun q => ?_, ⟨fun q => absurd s2 q, fun _ => ⟨t - 1, by omega, by omega, jj_u_eq⟩⟩, fun q => absurd q hn2, fun _ => Or.inr ⟨h0, g, h0 + 1, eh, eg, ?_, by omega, by omega, by omega, Or.inl ⟨hl0, rfl⟩⟩⟩
            · rw [s2] at q; exact absurd q (by decide)
            · rw [jj_u_nk (by decide), jj_u_eq]
      · have hl0 : g < h0 := jm_up (by rw [← eg, ← eh]; exact Int32.not_lt.mp hlt) (by rw [← eg, ← eh]; exact e) (by omega) (by omega)
        obtain ⟨m, rfl⟩ : ∃ m, h0 = m + 1 := ⟨h0 - 1, by omega⟩
        by_cases hq : q_ol 0 C m = 0
        · exact same (hid (by rw [g1_so h01 e]; exact so_cl (h := m) (by rw [if_neg hlt, eh, nI_pred, nv_nI (by omega)]) hq))
        · obtain ⟨t, t1, t2, et⟩ := hL m (by omega)
          have e2 : 2 * nI t - 1 = nI (2 * t - 1) := by rw [show (2 : Int32) = nI 2 from rfl, pk_mul, jm_sub1 (by omega)]
          unfold f_go
          rw [g1_so h01 e, so_up eh (by omega) hlt hq et t1]
          rw [g2_no _ (fun w => by have w2 := w.2; rw [jj_u_eq, nI_0lt (by omega)] at w2; omega)]
          have s2 : jj_u (jj_u (jj_u (jj_u C (aB 0 b) 3 2) (aB 0 b) 5 (nI m)) (aB 0 b) 4 (nI m)) (aB 0 b) 7 (nI (2 * t - 1)) (aB 0 b) 3 = 2 := by rw [jj_u_nk (by decide), jj_u_nk (by decide), jj_u_nk (by decide), jj_u_eq]
          refine ⟨Or.inr (Or.inr s2), fun q => ?_, ⟨fun q => absurd s2 q, fun _ => ⟨2 * t - 1, by omega, by omega, jj_u_eq⟩⟩, fun q => absurd q hn2, fun _ => Or.inr ⟨m + 1, g, m, eh, eg, ?_, by omega, by omega, by omega, Or.inr ⟨hl0, rfl⟩⟩⟩
          · rw [s2] at q; exact absurd q (by decide)
          · rw [jj_u_nk (by decide), jj_u_eq]
  · have h2 : C (aB 0 b) 3 = 2 := by
      rcases hp with e | e | e
      · exact absurd (Or.inl e) h01
      · exact absurd (Or.inr e) h01
      · exact e
    obtain ⟨l, hl1, el⟩ := hl5 h2
    obtain ⟨t, t1, t2, et⟩ := hl.2 h2
    by_cases hq : q_ol 0 C l = 0
    · refine same ?_
      unfold f_go
      rw [g1_on h2, el, nv_nI (by omega), if_pos hq, g2_no C (fun w => by have w2 := w.2; rw [et, nI_0lt (by omega)] at w2; omega)]
    · unfold f_go
      rw [g1_on h2, el, nv_nI (by omega), if_neg hq]
      by_cases t0 : t - 1 = 0
      · rw [g2_2 (by rw [jj_u_nk (by decide)]; exact h2) (by rw [jj_u_eq, et, jm_sub1 t1, t0]; decide)]
        refine ⟨Or.inl jj_u_eq, fun q => ?_, ⟨fun _ => ?_, fun q => ?_⟩, fun _ => ⟨?_, Or.inr ?_⟩, fun q => absurd h2 q⟩
        · rw [jj_u_eq] at q; exact absurd q (by decide)
        · rw [jj_u_nk (by decide), jj_u_eq, et, jm_sub1 t1, t0]; rfl
        · rw [jj_u_eq] at q; exact absurd q (by decide)
        · rw [jj_u_nk (by decide), jj_u_nk (by decide)]
        · rw [jj_u_nk (by decide), jj_u_eq]
      · rw [g2_no _ (fun w => by have w2 := w.2; rw [jj_u_eq, et, jm_sub1 t1, nI_0lt (by omega)] at w2; exact t0 w2)]
        have s2 : jj_u C (aB 0 b) 7 (C (aB 0 b) 7 - 1) (aB 0 b) 3 = 2 := by rw [jj_u_nk (by decide)]; exact h2
        refine ⟨Or.inr (Or.inr s2), fun q => ?_, ⟨fun q => absurd s2 q, fun _ => ⟨t - 1, by omega, by omega, ?_⟩⟩, fun _ => ⟨?_, Or.inr jj_u_eq⟩, fun q => absurd h2 q⟩
        · rw [s2] at q; exact absurd q (by decide)
        · rw [jj_u_eq, et, jm_sub1 t1]
        · rw [jj_u_nk (by decide)]
/-- caught by ice, or not -/
def bid (H b : Nat) (X J : jj_I) (hu : Nat) : Prop := (¬ cB H b X ∧ J = X) ∨ (cB H b X ∧ 1 < hu ∧ J = jj_u X (aB 0 b) 1 (nI (hu - 1))) ∨
  (cB H b X ∧ hu = 1 ∧ J (aB 0 b) 3 = 3 ∧ J (aB 0 b) 1 = 0 ∧ J (aB 0 b) 4 = -1 ∧ J (aB 0 b) 7 = 0 ∧ J (aB 0 b) 6 = X (aB 0 b) 6 ∧ ∀ g, g < 4 → J (aBc 0 b) g = 0)
theorem bi_d {hu : Nat} (h1 : 1 ≤ hu) (h2 : hu ≤ 20) (e : X (aB 0 b) 1 = nI hu) : bid H b X (f_bi 0 b H X) hu := by
  have hne : aB 0 b ≠ aBc 0 b := by simp only [aB, aBc]; omega
  by_cases c : cB H b X
  · rw [sbi_y c]
    rcases lh_sp h1 h2 e with ⟨q1, q2⟩ | ⟨q1, q2⟩
    · exact Or.inr (Or.inl ⟨c, q1, q2⟩)
    · refine Or.inr (Or.inr ⟨c, q1, ?_, ?_, ?_, ?_, ?_, fun g hg => ?_⟩)
      · rw [q2, it_off hne, jj_u_nk (by decide), jj_u_nk (by decide), jj_u_eq]
      · rw [q2, it_off hne, jj_u_nk (by decide), jj_u_nk (by decide), jj_u_nk (by decide), jj_u_eq]
      · rw [q2, it_off hne, jj_u_nk (by decide), jj_u_eq]
      · rw [q2, it_off hne, jj_u_eq]
      · rw [q2, it_off hne, jj_u_nk (by decide), jj_u_nk (by decide), jj_u_nk (by decide), jj_u_nk (by decide)]
      · rw [q2, it_cz, if_pos hg]
  · exact Or.inl ⟨c, sbi_n c⟩
/-- berth money -/
def pyd (b : Nat) (C J : jj_I) : Prop := J (aB 0 b) = C (aB 0 b) ∨ (C (aB 0 b) 3 = 1 ∧ J (aB 0 b) 3 = 0 ∧ ∀ s, s ≠ 3 → J (aB 0 b) s = C (aB 0 b) s)
theorem py_d (hs : sf 0 H M B N C) (hk : sk 0 H M B N C) (hb : b < B) : (sf 0 H M B N (it (f_py 0) C B) ∧ sk 0 H M B N (it (f_py 0) C B)) ∧ pyd b C (it (f_py 0) C B) ∧ it (f_py 0) C B (aIc 0) = C (aIc 0) ∧ it (f_py 0) C B (aBc 0 b) = C (aBc 0 b) := by
  have hB2 := hs.2.2.1.2
  have a := it_in (f := f_py 0) (S := fun J => (sf 0 H M B N J ∧ sk 0 H M B N J) ∧ pyd b C J ∧ J (aIc 0) = C (aIc 0) ∧ J (aBc 0 b) = C (aBc 0 b)) (x := C) ⟨⟨hs, hk⟩, Or.inl rfl, rfl, rfl⟩ (N := B) (fun k y hk hy => by
    obtain ⟨o, ho, eo⟩ := (hy.1.1.2.2.2.2.1 k hk).1
    refine ⟨⟨sf_py hy.1.1 hk, sk_py hy.1.1 hy.1.2 hk⟩, ?_, ?_, ?_⟩
    · by_cases e : b = k
      · subst e
        rw [py_eq eo ho]
        unfold pyd
        split
        · rename_i c
          split
          · rw [jj_u_ne (by simp only [aB, aM]; omega)]; exact hy.2.1
          · refine Or.inr ⟨?_, jj_u_eq, fun s hs => ?_⟩
            · rcases hy.2.1 with q | q
              · rw [← q]; exact c
              · exact q.1
            · rw [jj_u_nk hs]
              rcases hy.2.1 with q | q
              · rw [q]
              · exact q.2.2 s hs
        · exact hy.2.1
      · have e1 : f_py 0 k y (aB 0 b) = y (aB 0 b) := fr_py (by simp only [aB]; omega) (by rw [eo, nv_nI (by omega)]; simp only [aB, aM]; omega)
        unfold pyd
        rw [e1]
        exact hy.2.1
    · rw [fr_py (by simp only [aB, aIc]; omega) (by rw [eo, nv_nI (by omega)]; simp only [aIc, aM]; omega)]
      exact hy.2.2.1
    · rw [fr_py (by simp only [aB, aBc]; omega) (by rw [eo, nv_nI (by omega)]; simp only [aBc, aM]; omega)]
      exact hy.2.2.2) B (Nat.le_refl _)
  exact a
end BD
