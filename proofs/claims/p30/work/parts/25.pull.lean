/-! what a world keeps to, more of it -/
theorem jm_n {t s : Nat} (h : nI t = nI s) (ht : t < 1000) (hs : s < 1000) : t = s := by
  have h1 := nI_toInt (n := t) (by omega)
  have h2 := nI_toInt (n := s) (by omega)
  rw [h] at h1
  omega
def mlZ (M B N : Nat) : Prop := M ≤ 5 ∧ B ≤ 10 ∧ N ≤ 30
theorem sf_Z {w H M B N : Nat} {C : jj_I} (h : sf w H M B N C) : mlZ M B N := ⟨h.2.1.2, h.2.2.1.2, h.2.2.2.1.2⟩
section
variable {w H M B N : Nat} {C I : jj_I}
theorem jm_n2 {x : Int32} (h : x = 0 ∨ x = 1) : ¬ x = 2 := by rcases h with rfl | rfl <;> decide
theorem g2_2 {b : Nat} (h : C (aB w b) 3 = 2) (h7 : ¬ 0 < C (aB w b) 7) : f_g2 w b C = jj_u C (aB w b) 3 0 := if_pos ⟨h, h7⟩
theorem g1_so {b : Nat} (h : C (aB w b) 3 = 0 ∨ C (aB w b) 3 = 1) (e : ¬ C (aB w b) 4 = C (aB w b) 6) : f_g1 w b C = f_so w b C := if_pos ⟨h, e⟩
theorem g1_on {b : Nat} (h : C (aB w b) 3 = 2) : f_g1 w b C = if q_ol w C (nv (C (aB w b) 5)) = 0 then C else jj_u C (aB w b) 7 (C (aB w b) 7 - 1) := by
  unfold f_g1
  rw [if_neg (by rw [h]; rintro ⟨e | e, -⟩ <;> exact absurd e (by decide))]
  by_cases q : q_ol w C (nv (C (aB w b) 5)) = 0
  · rw [if_pos q, if_neg (fun e => e.2 q)]
  · rw [if_neg q, if_pos ⟨h, q⟩]
theorem so_dn {b h t : Nat} (h4 : C (aB w b) 4 = nI h) (hh : h < 8) (hlt : C (aB w b) 4 < C (aB w b) 6) (hq : ¬ q_ol w C h = 0) (ht : C (aLd w) h = nI t) (t1 : 1 ≤ t) : f_so w b C = jj_u (jj_u (jj_u (jj_u C (aB w b) 3 2) (aB w b) 5 (nI h)) (aB w b) 4 (nI (h + 1))) (aB w b) 7 (nI (t - 1)) := by
  unfold f_so
  rw [if_pos hlt, h4, nv_nI (by omega), if_neg hq]
  dsimp only
  rw [jj_u_nk (by decide), jj_u_nk (by decide), h4, nI_1]
  unfold f_do
  rw [if_neg (by decide), jj_u_ne (by simp only [aLd, aB]; omega), jj_u_ne (by simp only [aLd, aB]; omega), jj_u_ne (by simp only [aLd, aB]; omega), ht, show t = (t - 1) + 1 by omega, nI_pred]
  rfl
theorem so_up {b h t : Nat} (h4 : C (aB w b) 4 = nI (h + 1)) (hh : h < 8) (hlt : ¬ C (aB w b) 4 < C (aB w b) 6) (hq : ¬ q_ol w C h = 0) (ht : C (aLd w) h = nI t) (t1 : 1 ≤ t) : f_so w b C = jj_u (jj_u (jj_u (jj_u C (aB w b) 3 2) (aB w b) 5 (nI h)) (aB w b) 4 (nI h)) (aB w b) 7 (nI (2 * t - 1)) := by
  unfold f_so
  rw [if_neg hlt, h4, nI_pred, nv_nI (by omega), if_neg hq]
  dsimp only
  rw [jj_u_nk (by decide), jj_u_nk (by decide), h4, nI_pred]
  unfold f_do
  rw [if_pos rfl, jj_u_ne (by simp only [aLd, aB]; omega), jj_u_ne (by simp only [aLd, aB]; omega), jj_u_ne (by simp only [aLd, aB]; omega), ht, show (2 : Int32) = nI 2 from rfl, pk_mul, show 2 * t = (2 * t - 1) + 1 by omega, nI_pred]
  rfl
theorem so_cl {b h : Nat} (h4 : nv (if C (aB w b) 4 < C (aB w b) 6 then C (aB w b) 4 else C (aB w b) 4 - 1) = h) (hq : q_ol w C h = 0) : f_so w b C = C := by
  subst h4
  unfold f_so
  by_cases hlt : C (aB w b) 4 < C (aB w b) 6
  · rw [if_pos hlt] at hq ⊢
    rw [if_pos hq]
  · rw [if_neg hlt] at hq ⊢
    rw [if_pos hq]
/-- on its way a boat has days to go -/
def sfG (w : Nat) (C : jj_I) (b : Nat) : Prop := C (aB w b) 3 = 2 → ∃ t, 1 ≤ t ∧ t ≤ 18 ∧ C (aB w b) 7 = nI t
end
theorem jm_up {g h : Nat} (h1 : nI g ≤ nI h) (h2 : ¬ nI h = nI g) (hg : g < 1000) (hh : h < 1000) : g < h := by
  have e1 := nI_toInt (n := g) (by omega)
  have e2 := nI_toInt (n := h) (by omega)
  rw [Int32.le_iff_toInt_le, e1, e2] at h1
  have : g ≠ h := fun e => h2 (by rw [e])
  omega
theorem jm_dn {g h : Nat} (h1 : ¬ nI g ≤ nI h) (hg : g < 1000) (hh : h < 1000) : h < g := Nat.lt_of_not_le (fun e => h1 (nI_le e (by omega)))
theorem jm_sub1 {t : Nat} (h : 1 ≤ t) : nI t - 1 = nI (t - 1) := by
  obtain ⟨s, rfl⟩ : ∃ s, t = s + 1 := ⟨t - 1, by omega⟩
  rw [nI_pred]
  rfl
/-- more that a world keeps to: legs' days, days to go, whose all is -/
def sk (w H M B N : Nat) (C : jj_I) : Prop := sfL w H C ∧ (∀ b, b < B → sfG w C b ∧ ∃ o, o < M ∧ C (aB w b) 0 = nI o) ∧ ∀ d, d < N → (∃ a, a < M ∧ C (aD w d) 0 = nI a) ∧ ∃ q, q < M ∧ C (aD w d) 1 = nI q
section
variable {w H M B N : Nat} {C I : jj_I}
theorem sfG_cg {b : Nat} {J : jj_I} (h : J (aB w b) = C (aB w b)) (hg : sfG w C b) : sfG w J b := by
  unfold sfG
  rw [h]
  exact hg
theorem sk_fr {d : Nat} (h : sk w H M B N C) : sk w H M B N (f_fr w H d C) := by
  obtain ⟨h1, h2, h3⟩ := h
  refine ⟨fun l hl => ?_, fun b hb => ?_, fun k hk => ?_⟩
  · rw [fr_fr (by simp only [aLd, aIc]; omega)]; exact h1 l hl
  · rw [fr_fr (a := aB w b) (by simp only [aB, aIc]; omega)]; exact ⟨sfG_cg (fr_fr (by simp only [aB, aIc]; omega)) (h2 b hb).1, (h2 b hb).2⟩
  · rw [fr_fr (by simp only [aD, aIc]; omega)]; exact h3 k hk
/-- only boat k, merchants and what is theirs changed -/
theorem sk_bo {k : Nat} {J : jj_I} (h : sk w H M B N C) (z : mlZ M B N) (hk : k < B) (ho : ∀ a, a ≠ aB w k → (∀ o, o < 5 → a ≠ aM w o) → a ≠ aBc w k → J a = C a) (h0 : J (aB w k) 0 = C (aB w k) 0) (hg : sfG w J k) : sk w H M B N J := by
  obtain ⟨z1, z2, z3⟩ := z
  obtain ⟨h1, h2, h3⟩ := h
  refine ⟨fun l hl => ?_, fun b hb => ?_, fun d hd => ?_⟩
  · rw [ho _ (by simp only [aLd, aB]; omega) (fun o _ => by simp only [aLd, aM]; omega) (by simp only [aLd, aBc]; omega)]; exact h1 l hl
  · by_cases e : b = k
    · subst e; rw [h0]; exact ⟨hg, (h2 b hb).2⟩
    · have e1 := ho (aB w b) (by simp only [aB]; omega) (fun o _ => by simp only [aB, aM]; omega) (by simp only [aB, aBc]; omega)
      rw [e1]; exact ⟨sfG_cg e1 (h2 b hb).1, (h2 b hb).2⟩
  · rw [ho _ (by simp only [aD, aB]; omega) (fun o _ => by simp only [aD, aM]; omega) (by simp only [aD, aBc]; omega)]; exact h3 d hd
theorem sk_py {k : Nat} (hs : sf w H M B N C) (h : sk w H M B N C) (hk : k < B) : sk w H M B N (f_py w k C) := by
  obtain ⟨o, ho, eo⟩ := (h.2.1 k hk).2
  have hM2 := hs.2.1.2
  have hB2 := hs.2.2.1.2
  have hne : aB w k ≠ aM w o := by simp only [aB, aM]; omega
  refine sk_bo h (sf_Z hs) hk (fun a e1 e2 e3 => fr_py e1 (by rw [eo, nv_nI (by omega)]; exact e2 o (by omega))) ?_ ?_
  · unfold f_py
    rw [eo, nv_nI (by omega)]
    split
    · split
      · rw [jj_u_ne hne, eo]
      · rw [jj_u_nk (by decide), eo]
    · exact eo
  · have hg := (h.2.1 k hk).1
    unfold f_py
    rw [eo, nv_nI (by omega)]
    split
    · split
      · exact sfG_cg (jj_u_ne hne) hg
      · intro e; rw [jj_u_eq] at e; exact absurd e (by decide)
    · exact hg
theorem g1_ok {k : Nat} (hs : sf w H M B N C) (h : sk w H M B N C) (hk : k < B) : f_g1 w k C (aB w k) 0 = C (aB w k) 0 ∧ (f_g1 w k C (aB w k) 3 = 2 → ∃ t, t ≤ 18 ∧ f_g1 w k C (aB w k) 7 = nI t) := by
  have hH2 := hs.1.2
  obtain ⟨-, hp, h4, hl, ⟨g, hg6, eg⟩⟩ := hs.2.2.2.2.1 k hk
  have hG := (h.2.1 k hk).1
  have old : C (aB w k) 3 = 2 → ∃ t, t ≤ 18 ∧ C (aB w k) 7 = nI t := fun e => by
    obtain ⟨t, -, t2, et⟩ := hG e
    exact ⟨t, t2, et⟩
  by_cases hh : C (aB w k) 3 = 0 ∨ C (aB w k) 3 = 1
  · by_cases e : C (aB w k) 4 = C (aB w k) 6
    · have : f_g1 w k C = C := by
        unfold f_g1
        rw [if_neg (fun q => q.2 e), if_neg (fun q => jm_n2 hh q.1)]
      rw [this]
      exact ⟨rfl, old⟩
    · rw [g1_so hh e]
      obtain ⟨h0, hh0, eh0⟩ := h4 (by rcases hh with q | q <;> rw [q] <;> decide)
      by_cases hlt : C (aB w k) 4 < C (aB w k) 6
      · have hl0 : h0 < g := jm_dn (by rw [← eg, ← eh0]; exact Int32.not_le.mpr hlt) (by omega) (by omega)
        by_cases hq : q_ol w C h0 = 0
        · rw [so_cl (h := h0) (by rw [if_pos hlt, eh0, nv_nI (by omega)]) hq]
          exact ⟨rfl, old⟩
        · obtain ⟨t, t1, t2, et⟩ := h.1 h0 (by omega)
          rw [so_dn eh0 (by omega) hlt hq et t1]
          exact ⟨by rw [jj_u_nk (by decide), jj_u_nk (by decide), jj_u_nk (by decide), jj_u_nk (by decide)], fun _ => ⟨t - 1, by omega, by rw [jj_u_eq]⟩⟩
      · have hl0 : g < h0 := jm_up (by rw [← eg, ← eh0]; exact Int32.not_lt.mp hlt) (by rw [← eg, ← eh0]; exact e) (by omega) (by omega)
        obtain ⟨m, rfl⟩ : ∃ m, h0 = m + 1 := ⟨h0 - 1, by omega⟩
        by_cases hq : q_ol w C m = 0
        · rw [so_cl (h := m) (by rw [if_neg hlt, eh0, nI_pred, nv_nI (by omega)]) hq]
          exact ⟨rfl, old⟩
        · obtain ⟨t, t1, t2, et⟩ := h.1 m (by omega)
          rw [so_up eh0 (by omega) hlt hq et t1]
          exact ⟨by rw [jj_u_nk (by decide), jj_u_nk (by decide), jj_u_nk (by decide), jj_u_nk (by decide)], fun _ => ⟨2 * t - 1, by omega, by rw [jj_u_eq]⟩⟩
  · by_cases h2 : C (aB w k) 3 = 2
    · rw [g1_on h2]
      obtain ⟨t, t1, t2, et⟩ := hG h2
      split
      · exact ⟨rfl, old⟩
      · exact ⟨by rw [jj_u_nk (by decide)], fun _ => ⟨t - 1, by omega, by rw [jj_u_eq, et, jm_sub1 t1]⟩⟩
    · have : f_g1 w k C = C := by
        unfold f_g1
        rw [if_neg (fun q => hh q.1), if_neg (fun q => h2 q.1)]
      rw [this]
      exact ⟨rfl, old⟩
theorem go_ok {k : Nat} (hs : sf w H M B N C) (h : sk w H M B N C) (hk : k < B) : f_go w k C (aB w k) 0 = C (aB w k) 0 ∧ sfG w (f_go w k C) k := by
  obtain ⟨e0, e7⟩ := g1_ok hs h hk
  unfold f_go
  by_cases hc : f_g1 w k C (aB w k) 3 = 2 ∧ ¬ 0 < f_g1 w k C (aB w k) 7
  · rw [g2_2 hc.1 hc.2]
    exact ⟨by rw [jj_u_nk (by decide)]; exact e0, fun e => by rw [jj_u_eq] at e; exact absurd e (by decide)⟩
  · rw [show f_g2 w k (f_g1 w k C) = f_g1 w k C from if_neg hc]
    refine ⟨e0, fun e => ?_⟩
    obtain ⟨t, t2, et⟩ := e7 e
    refine ⟨t, Nat.pos_of_ne_zero (fun q => hc ⟨e, ?_⟩), t2, et⟩
    rw [et, q]
    decide
theorem lh_ok {k : Nat} (h2 : sfG w C k) : f_lh w k C (aB w k) 0 = C (aB w k) 0 ∧ sfG w (f_lh w k C) k := by
  have hne : aB w k ≠ aBc w k := by simp only [aB, aBc]; omega
  unfold f_lh
  try dsimp only
  split
  · exact ⟨by rw [jj_u_nk (by decide)], fun e => by rw [jj_u_nk (by decide)] at e ⊢; exact h2 e⟩
  · refine ⟨by rw [it_off hne, jj_u_nk (by decide), jj_u_nk (by decide), jj_u_nk (by decide), jj_u_nk (by decide)], fun e => ?_⟩
    rw [it_off hne, jj_u_nk (by decide), jj_u_nk (by decide), jj_u_eq] at e
    exact absurd e (by decide)
theorem sk_gb {k : Nat} (hs : sf w H M B N C) (h : sk w H M B N C) (hk : k < B) : sk w H M B N (f_bi w k H (f_go w k C)) := by
  obtain ⟨e0, hg⟩ := go_ok hs h hk
  have hl := lh_ok hg
  refine sk_bo h (sf_Z hs) hk (fun a e1 e2 e3 => (fr_bi e1 e3).trans (fr_go e1)) ?_ ?_
  · unfold f_bi
    split
    · exact hl.1.trans e0
    · split
      · exact hl.1.trans e0
      · exact e0
  · unfold f_bi
    split
    · exact hl.2
    · split
      · exact hl.2
      · exact hg
theorem se_eq {k a q h g : Nat} (e0 : C (aD w k) 0 = nI a) (e1 : C (aD w k) 1 = nI q) (e2 : C (aD w k) 2 = nI h) (e3 : C (aD w k) 3 = nI g) (ha : a < 5) (hq : q < 5) (hh : h < 8) (hg : g < 4) : f_se w k C = if C (aD w k) 6 = 0 ∧ C (aD w k) 5 ≤ C (aR w) 0 then (if C (aMt w q) (4 * h + g) < C (aD w k) 4 then (if C (aM w q) 0 < C (aD w k) 4 * C (aPr w) (4 * h + g) then jj_u C (aD w k) 6 2 else jj_u (jj_u (jj_u C (aM w q) 0 (C (aM w q) 0 - C (aD w k) 4 * C (aPr w) (4 * h + g))) (aM w a) 0 (jj_u C (aM w q) 0 (C (aM w q) 0 - C (aD w k) 4 * C (aPr w) (4 * h + g)) (aM w a) 0 + C (aD w k) 4 * C (aPr w) (4 * h + g))) (aD w k) 6 1) else jj_u (f_hd w q a (4 * h + g) (C (aD w k) 4) C) (aD w k) 6 1) else C := by
  have hc : f_ce w k C = 4 * h + g := by
    unfold f_ce
    rw [e2, e3, nv_nI (by omega), nv_nI (by omega)]
    omega
  unfold f_se
  try dsimp only
  rw [hc, e0, e1, nv_nI (by omega), nv_nI (by omega)]
theorem sk_se {k : Nat} (hs : sf w H M B N C) (h : sk w H M B N C) (hk : k < N) : sk w H M B N (f_se w k C) := by
  obtain ⟨h1, h2, h3⟩ := h
  have hM2 := hs.2.1.2
  have hN2 := hs.2.2.2.1.2
  have hH2 := hs.1.2
  obtain ⟨⟨a, ha, e0⟩, ⟨q, hq, e1⟩⟩ := h3 k hk
  have fr : ∀ x, x ≠ aD w k → x ≠ aM w q → x ≠ aM w a → x ≠ aMt w q → x ≠ aMt w a → f_se w k C x = C x := fun x y1 y2 y3 y4 y5 => fr_se y1 (by rw [e1, nv_nI (by omega)]; exact y2) (by rw [e0, nv_nI (by omega)]; exact y3) (by rw [e1, nv_nI (by omega)]; exact y4) (by rw [e0, nv_nI (by omega)]; exact y5)
  obtain ⟨-, -, ⟨x, hx, e2⟩, ⟨g, hg, e3⟩⟩ := hs.2.2.2.2.2 k hk
  have keep : ∀ s, s ≠ 6 → f_se w k C (aD w k) s = C (aD w k) s := fun s hs6 => by
    rw [se_eq e0 e1 e2 e3 (by omega) (by omega) (by omega) hg]
    split
    · split
      · split
        · rw [jj_u_nk hs6]
        · rw [jj_u_nk hs6, jj_u_ne (by simp only [aD, aM]; omega), jj_u_ne (by simp only [aD, aM]; omega)]
      · rw [jj_u_nk hs6]
        unfold f_hd
        try dsimp only
        rw [jj_u_ne (by simp only [aD, aMt]; omega), jj_u_ne (by simp only [aD, aMt]; omega)]
    · rfl
  refine ⟨fun l hl => ?_, fun b hb => ?_, fun d hd => ?_⟩
  · rw [fr _ (by simp only [aLd, aD]; omega) (by simp only [aLd, aM]; omega) (by simp only [aLd, aM]; omega) (by simp only [aLd, aMt]; omega) (by simp only [aLd, aMt]; omega)]; exact h1 l hl
  · have hB2 := hs.2.2.1.2
    have e := fr (aB w b) (by simp only [aB, aD]; omega) (by simp only [aB, aM]; omega) (by simp only [aB, aM]; omega) (by simp only [aB, aMt]; omega) (by simp only [aB, aMt]; omega)
    rw [e]; exact ⟨sfG_cg e (h2 b hb).1, (h2 b hb).2⟩
  · by_cases e : d = k
    · subst e; rw [keep 0 (by decide), keep 1 (by decide)]; exact h3 d hd
    · rw [fr _ (by simp only [aD]; omega) (by simp only [aD, aM]; omega) (by simp only [aD, aM]; omega) (by simp only [aD, aMt]; omega) (by simp only [aD, aMt]; omega)]; exact h3 d hd
theorem sk_dy {v : Int32} (h : sk w H M B N C) (z : mlZ M B N) : sk w H M B N (jj_u C (aR w) 0 v) := by
  obtain ⟨z1, z2, z3⟩ := z
  obtain ⟨h1, h2, h3⟩ := h
  refine ⟨fun l hl => ?_, fun b hb => ?_, fun k hk => ?_⟩
  · rw [jj_u_ne (by simp only [aLd, aR]; omega)]; exact h1 l hl
  · rw [jj_u_ne (by simp only [aB, aR]; omega)]; exact ⟨sfG_cg (jj_u_ne (by simp only [aB, aR]; omega)) (h2 b hb).1, (h2 b hb).2⟩
  · rw [jj_u_ne (by simp only [aD, aR]; omega)]; exact h3 k hk
theorem sk_pd {d : Nat} (hs : sf w H M B N C) (h : sk w H M B N C) : sk w H M B N (f_pd w H B N d C) := by
  have a1 := it_in (f := f_py w) (S := fun J => sf w H M B N J ∧ sk w H M B N J) ⟨sf_fr (d := d) hs, sk_fr (d := d) h⟩ (N := B) (fun k y hk hy => ⟨sf_py hy.1 hk, sk_py hy.1 hy.2 hk⟩) B (Nat.le_refl _)
  have a2 := it_in (f := fun k M => f_bi w k H (f_go w k M)) (S := fun J => sf w H M B N J ∧ sk w H M B N J) a1 (N := B) (fun k y hk hy => ⟨sf_gb hy.1 hk, sk_gb hy.1 hy.2 hk⟩) B (Nat.le_refl _)
  have a3 := it_in (f := f_se w) (S := fun J => sf w H M B N J ∧ sk w H M B N J) a2 (N := N) (fun k y hk hy => ⟨sf_se hy.1 hk, sk_se hy.1 hy.2 hk⟩) N (Nat.le_refl _)
  exact sk_dy a3.2 (sf_Z hs)
end
/-- berths are numbers -/
def sfE (w H : Nat) (C : jj_I) : Prop := ∀ h, h < H → ∃ e, e ≤ 5 ∧ C (aBe w) h = nI e
