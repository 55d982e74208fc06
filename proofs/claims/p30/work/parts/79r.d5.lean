/-! the copy's days are the world's days -/
section DR
variable {H M B N d : Nat} {C J X Y Z : jj_I}
def er (H M B N : Nat) (X C : jj_I) : Prop := (∀ k, k < 40 → X (aWm 1) k = C (aWm 0) k) ∧ (∀ l, l + 1 < H → X (aLd 1) l = C (aLd 0) l) ∧ (∀ l, l + 1 < H → X (aIc 1) l = C (aIc 0) l) ∧ (∀ c, c < 32 → X (aPr 1) c = C (aPr 0) c) ∧ X (aR 1) 0 = C (aR 0) 0 ∧
  (∀ m, m < M → X (aM 1 m) 0 = C (aM 0 m) 0) ∧ (∀ m, m < M → ∀ c, c < 32 → X (aMt 1 m) c = C (aMt 0 m) c) ∧ (∀ b, b < B → ∀ s, s < 8 → X (aB 1 b) s = C (aB 0 b) s) ∧ ∀ k, k < N → ∀ s, s < 7 → X (aD 1 k) s = C (aD 0 k) s
theorem er_u {a0 a1 k : Nat} {v : Int32} (h : er H M B N X C) (e : a1 = a0 + 70) (hM : M ≤ 5) (hB : B ≤ 10) (hN : N ≤ 30) : er H M B N (jj_u X a1 k v) (jj_u C a0 k v) := by
  subst e
  have u : ∀ x j, X (x + 70) j = C x j → jj_u X (a0 + 70) k v (x + 70) j = jj_u C a0 k v x j := fun x j q => by
    unfold jj_u
    by_cases c : x = a0 ∧ j = k
    · rw [if_pos ⟨by omega, c.2⟩, if_pos c]
    · rw [if_neg (fun w => c ⟨by omega, w.2⟩), if_neg c]; exact q
  obtain ⟨h1, h2, h3, h4, h5, h6, h7, h8, h9⟩ := h
  have w : ∀ x y j, y = x + 70 → X y j = C x j → jj_u X (a0 + 70) k v y j = jj_u C a0 k v x j := fun x y j e q => by subst e; exact u x j q
  exact ⟨fun j hj => w _ _ j rfl (h1 j hj), fun j hj => w _ _ j rfl (h2 j hj), fun j hj => w _ _ j rfl (h3 j hj), fun j hj => w _ _ j rfl (h4 j hj), w _ _ 0 rfl h5, fun m hm => w _ _ 0 (by simp only [aM]; omega) (h6 m hm), fun m hm c hc => w _ _ c (by simp only [aMt]; omega) (h7 m hm c hc), fun b hb s hs => w _ _ s (by simp only [aB]; omega) (h8 b hb s hs), fun k hk s hs => w _ _ s (by simp only [aD]; omega) (h9 k hk s hs)⟩
/-- writes that no row here reads -/
theorem er_w {a0 a1 : Nat} {X1 C1 : jj_I} (h : er H M B N X C) (hM : M ≤ 5) (hB : B ≤ 10) (hN : N ≤ 30) (k : Nat) (e0 : a0 = aBc 0 k) (e1 : a1 = aBc 1 k) (hk : k < 10) (hX : ∀ a, a ≠ a1 → X1 a = X a) (hC : ∀ a, a ≠ a0 → C1 a = C a) : er H M B N X1 C1 := by
  subst e0; subst e1
  obtain ⟨h1, h2, h3, h4, h5, h6, h7, h8, h9⟩ := h
  have w : ∀ x y j, x ≠ aBc 0 k → y ≠ aBc 1 k → X y j = C x j → X1 y j = C1 x j := fun x y j n0 n1 q => by rw [hX y n1, hC x n0]; exact q
  exact ⟨fun j hj => w _ _ j (by simp only [aWm, aBc]; omega) (by simp only [aWm, aBc]; omega) (h1 j hj), fun j hj => w _ _ j (by simp only [aLd, aBc]; omega) (by simp only [aLd, aBc]; omega) (h2 j hj), fun j hj => w _ _ j (by simp only [aIc, aBc]; omega) (by simp only [aIc, aBc]; omega) (h3 j hj), fun j hj => w _ _ j (by simp only [aPr, aBc]; omega) (by simp only [aPr, aBc]; omega) (h4 j hj), w _ _ 0 (by simp only [aR, aBc]; omega) (by simp only [aR, aBc]; omega) h5, fun m hm => w _ _ 0 (by simp only [aM, aBc]; omega) (by simp only [aM, aBc]; omega) (h6 m hm), fun m hm c hc => w _ _ c (by simp only [aMt, aBc]; omega) (by simp only [aMt, aBc]; omega) (h7 m hm c hc), fun b hb s hs => w _ _ s (by simp only [aB, aBc]; omega) (by simp only [aB, aBc]; omega) (h8 b hb s hs), fun q hq s hs => w _ _ s (by simp only [aD, aBc]; omega) (by simp only [aD, aBc]; omega) (h9 q hq s hs)⟩
theorem it_r2 {R : jj_I → jj_I → Prop} {f g : Nat → jj_I → jj_I} {x z : jj_I} (h0 : R x z) : ∀ n, (∀ k y c, k < n → R y c → R (f k y) (g k c)) → R (it f x n) (it g z n)
  | 0, _ => h0
  | n + 1, h => h n _ _ (Nat.lt_succ_self _) (it_r2 h0 n (fun k y c hk => h k y c (by omega)))
theorem e70_M {m : Nat} : aM 1 m = aM 0 m + 70 := by simp only [aM]; omega
theorem e70_Mt {m : Nat} : aMt 1 m = aMt 0 m + 70 := by simp only [aMt]; omega
theorem e70_B {m : Nat} : aB 1 m = aB 0 m + 70 := by simp only [aB]; omega
theorem e70_D {m : Nat} : aD 1 m = aD 0 m + 70 := by simp only [aD]; omega
theorem er_fr (h : er H M B N X C) (hM : M ≤ 5) (hB : B ≤ 10) (hN : N ≤ 30) : er H M B N (f_fr 1 H d X) (f_fr 0 H d C) := by
  unfold f_fr
  refine it_r2 h (H - 1) (fun k y c hk q => ?_)
  rw [q.2.2.1 k (by omega), h.1 (d % 40) (Nat.mod_lt _ (by decide))]
  exact er_u q rfl hM hB hN
theorem er_py {k : Nat} (h : er H M B N X C) (hs : sf 0 H M B N C) (hk : sk 0 H M B N C) (hb : k < B) : er H M B N (f_py 1 k X) (f_py 0 k C) := by
  have hM2 := hs.2.1.2
  have hB2 := hs.2.2.1.2
  have hN2 := hs.2.2.2.1.2
  obtain ⟨o, ho, eo⟩ := (hk.2.1 k hb).2
  have r := h.2.2.2.2.2.2.2.1 k hb
  rw [py_eq eo (by omega), py_eq ((r 0 (by decide)).trans eo) (by omega), r 3 (by decide), h.2.2.2.2.2.1 o ho]
  split
  · split
    · exact er_u h e70_M hM2 hB2 hN2
    · exact er_u h e70_B hM2 hB2 hN2
  · exact h
theorem er_ol {l : Nat} (h : er H M B N X C) (hl : l + 1 < H) : q_ol 1 X l = q_ol 0 C l := by
  unfold q_ol
  rw [h.2.2.1 l hl]
theorem er_go {k : Nat} (h : er H M B N X C) (hs : sf 0 H M B N C) (hk : sk 0 H M B N C) (hb : k < B) : er H M B N (f_go 1 k X) (f_go 0 k C) := by
  have hH2 := hs.1.2
  have hM2 := hs.2.1.2
  have hB2 := hs.2.2.1.2
  have hN2 := hs.2.2.2.1.2
  have r := h.2.2.2.2.2.2.2.1 k hb
  have g1 : er H M B N (f_g1 1 k X) (f_g1 0 k C) := by
    obtain ⟨-, hp4, h4, hl5, ⟨g, hg6, eg⟩⟩ := hs.2.2.2.2.1 k hb
    unfold f_g1
    rw [r 3 (by decide), r 4 (by decide), r 6 (by decide)]
    split
    · rename_i c
      have h3 : ¬ C (aB 0 k) 3 = 3 := by rcases c.1 with e | e <;> rw [e] <;> decide
      obtain ⟨h0, hh0, eh⟩ := h4 h3
      by_cases hlt : C (aB 0 k) 4 < C (aB 0 k) 6
      · have hl0 : h0 < g := jm_dn (by rw [← eg, ← eh]; exact Int32.not_le.mpr hlt) (by omega) (by omega)
        obtain ⟨t, t1, t2, et⟩ := hk.1 h0 (by omega)
        by_cases hq : q_ol 0 C h0 = 0
        · rw [so_cl (h := h0) (by rw [if_pos hlt, eh, nv_nI (by omega)]) hq, so_cl (w := 1) (h := h0) (by rw [r 4 (by decide), r 6 (by decide), if_pos hlt, eh, nv_nI (by omega)]) (by rw [er_ol h (by omega)]; exact hq)]
          exact h
        · rw [so_dn eh (by omega) hlt hq et t1, so_dn (w := 1) ((r 4 (by decide)).trans eh) (by omega) (by rw [r 4 (by decide), r 6 (by decide)]; exact hlt) (by rw [er_ol h (by omega)]; exact hq) ((h.2.1 h0 (by omega)).trans et) t1]
          exact er_u (er_u (er_u (er_u h e70_B hM2 hB2 hN2) e70_B hM2 hB2 hN2) e70_B hM2 hB2 hN2) e70_B hM2 hB2 hN2
      · have hl0 : g < h0 := jm_up (by rw [← eg, ← eh]; exact Int32.not_lt.mp hlt) (by rw [← eg, ← eh]; exact c.2) (by omega) (by omega)
        obtain ⟨m, rfl⟩ : ∃ m, h0 = m + 1 := ⟨h0 - 1, by omega⟩
        obtain ⟨t, t1, t2, et⟩ := hk.1 m (by omega)
        by_cases hq : q_ol 0 C m = 0
        · rw [so_cl (h := m) (by rw [if_neg hlt, eh, nI_pred, nv_nI (by omega)]) hq, so_cl (w := 1) (h := m) (by rw [r 4 (by decide), r 6 (by decide), if_neg hlt, eh, nI_pred, nv_nI (by omega)]) (by rw [er_ol h (by omega)]; exact hq)]
          exact h
        · rw [so_up eh (by omega) hlt hq et t1, so_up (w := 1) ((r 4 (by decide)).trans eh) (by omega) (by rw [r 4 (by decide), r 6 (by decide)]; exact hlt) (by rw [er_ol h (by omega)]; exact hq) ((h.2.1 m (by omega)).trans et) t1]
          exact er_u (er_u (er_u (er_u h e70_B hM2 hB2 hN2) e70_B hM2 hB2 hN2) e70_B hM2 hB2 hN2) e70_B hM2 hB2 hN2
    · by_cases h2 : C (aB 0 k) 3 = 2
      · obtain ⟨l, hl1, el⟩ := hl5 h2
        rw [r 5 (by decide), r 7 (by decide), el, nv_nI (by omega), er_ol h hl1]
        split
        · exact er_u h e70_B hM2 hB2 hN2
        · exact h
      · rw [if_neg (fun q => h2 q.1), if_neg (fun q => h2 q.1)]
        exact h
  have r2 := g1.2.2.2.2.2.2.2.1 k hb
  unfold f_go f_g2
  rw [r2 3 (by decide), r2 7 (by decide)]
  split
  · exact er_u g1 e70_B hM2 hB2 hN2
  · exact g1
theorem er_lh {k : Nat} (h : er H M B N X C) (hs : sf 0 H M B N C) (hb : k < B) : er H M B N (f_lh 1 k X) (f_lh 0 k C) := by
  have hM2 := hs.2.1.2
  have hB2 := hs.2.2.1.2
  have hN2 := hs.2.2.2.1.2
  have r := h.2.2.2.2.2.2.2.1 k hb
  unfold f_lh
  try dsimp only
  rw [jj_u_eq, jj_u_eq, r 1 (by decide)]
  have u1 := er_u (k := 1) (v := C (aB 0 k) 1 - 1) h (e70_B (m := k)) hM2 hB2 hN2
  split
  · exact u1
  · refine er_w (er_u (er_u (er_u u1 e70_B hM2 hB2 hN2) e70_B hM2 hB2 hN2) e70_B hM2 hB2 hN2) hM2 hB2 hN2 k rfl rfl (by omega) (fun a ha => it_off ha 4) (fun a ha => it_off ha 4)
theorem er_ia {h : Nat} (hr : er H M B N X C) (hh : h < H) : f_ia 1 h H X = f_ia 0 h H C := by
  unfold f_ia
  split
  · rfl
  · exact hr.2.2.1 _ (by split <;> omega)
theorem bi_2 {w k : Nat} (h2 : C (aB w k) 3 = 2) : f_bi w k H C = if C (aIc w) (nv (C (aB w k) 5)) ≤ 20 then C else f_lh w k C := by
  unfold f_bi
  by_cases c : C (aIc w) (nv (C (aB w k) 5)) ≤ 20
  · rw [if_pos c, if_neg (show ¬ (C (aB w k) 3 = 2 ∧ ¬ C (aIc w) (nv (C (aB w k) 5)) ≤ 20) from fun q => q.2 c), if_neg (show ¬ (C (aB w k) 3 = 0 ∧ ¬ f_ia w (nv (C (aB w k) 4)) H C ≤ 20) from fun q => by rw [h2] at q; exact absurd q.1 (by decide))]
  · rw [if_neg c, if_pos (show (C (aB w k) 3 = 2 ∧ ¬ C (aIc w) (nv (C (aB w k) 5)) ≤ 20) from ⟨h2, c⟩)]
theorem bi_0 {w k : Nat} (h0 : C (aB w k) 3 = 0) : f_bi w k H C = if f_ia w (nv (C (aB w k) 4)) H C ≤ 20 then C else f_lh w k C := by
  unfold f_bi
  rw [if_neg (show ¬ (C (aB w k) 3 = 2 ∧ ¬ C (aIc w) (nv (C (aB w k) 5)) ≤ 20) from fun q => by rw [h0] at q; exact absurd q.1 (by decide))]
  by_cases c : f_ia w (nv (C (aB w k) 4)) H C ≤ 20
  · rw [if_pos c, if_neg (show ¬ (C (aB w k) 3 = 0 ∧ ¬ f_ia w (nv (C (aB w k) 4)) H C ≤ 20) from fun q => q.2 c)]
  · rw [if_neg c, if_pos (show (C (aB w k) 3 = 0 ∧ ¬ f_ia w (nv (C (aB w k) 4)) H C ≤ 20) from ⟨h0, c⟩)]
theorem bi_no {w k : Nat} (h2 : ¬ C (aB w k) 3 = 2) (h0 : ¬ C (aB w k) 3 = 0) : f_bi w k H C = C := by
  unfold f_bi
  rw [if_neg (show ¬ (C (aB w k) 3 = 2 ∧ ¬ C (aIc w) (nv (C (aB w k) 5)) ≤ 20) from fun q => h2 q.1), if_neg (show ¬ (C (aB w k) 3 = 0 ∧ ¬ f_ia w (nv (C (aB w k) 4)) H C ≤ 20) from fun q => h0 q.1)]
theorem er_bi {k : Nat} (h : er H M B N X C) (hs : sf 0 H M B N C) (hb : k < B) : er H M B N (f_bi 1 k H X) (f_bi 0 k H C) := by
  have hH2 := hs.1.2
  have r := h.2.2.2.2.2.2.2.1 k hb
  have hl := er_lh h hs hb
  obtain ⟨-, hp4, h4, hl5, -⟩ := hs.2.2.2.2.1 k hb
  have r3 := r 3 (by decide)
  by_cases h2 : C (aB 0 k) 3 = 2
  · obtain ⟨l, hl1, el⟩ := hl5 h2
    rw [bi_2 h2, bi_2 (w := 1) (r3.trans h2), r 5 (by decide), el, nv_nI (by omega), h.2.2.1 l hl1]
    split
    · exact h
    · exact hl
  · by_cases h0 : C (aB 0 k) 3 = 0
    · obtain ⟨p, hp, ep⟩ := h4 (by rw [h0]; decide)
      rw [bi_0 h0, bi_0 (w := 1) (r3.trans h0), r 4 (by decide), ep, nv_nI (by omega), er_ia h hp]
      split
      · exact h
      · exact hl
    · rw [bi_no h2 h0, bi_no (w := 1) (by rw [r3]; exact h2) (by rw [r3]; exact h0)]
      exact h
theorem er_se {k : Nat} (h : er H M B N X C) (hs : sf 0 H M B N C) (hk : sk 0 H M B N C) (hd : k < N) : er H M B N (f_se 1 k X) (f_se 0 k C) := by
  have hH2 := hs.1.2
  have hM2 := hs.2.1.2
  have hB2 := hs.2.2.1.2
  have hN2 := hs.2.2.2.1.2
  obtain ⟨⟨a, ha, e0⟩, ⟨q, hq, e1⟩⟩ := hk.2.2 k hd
  obtain ⟨-, -, ⟨x, hx, e2⟩, ⟨g, hg, e3⟩⟩ := hs.2.2.2.2.2 k hd
  have r := h.2.2.2.2.2.2.2.2 k hd
  have rc := h.2.2.2.2.2.1
  have rs := h.2.2.2.2.2.2.1
  rw [se_eq e0 e1 e2 e3 (by omega) (by omega) (by omega) hg, se_eq (w := 1) ((r 0 (by decide)).trans e0) ((r 1 (by decide)).trans e1) ((r 2 (by decide)).trans e2) ((r 3 (by decide)).trans e3) (by omega) (by omega) (by omega) hg]
  rw [r 6 (by decide), r 5 (by decide), h.2.2.2.2.1, rs q hq _ (by omega), r 4 (by decide), rc q hq, h.2.2.2.1 _ (by omega)]
  split
  · split
    · split
      · exact er_u h e70_D hM2 hB2 hN2
      · have u1 := er_u (k := 0) (v := C (aM 0 q) 0 - C (aD 0 k) 4 * C (aPr 0) (4 * x + g)) h (e70_M (m := q)) hM2 hB2 hN2
        rw [u1.2.2.2.2.2.1 a ha]
        exact er_u (er_u u1 e70_M hM2 hB2 hN2) e70_D hM2 hB2 hN2
    · unfold f_hd
      try dsimp only
      rw [rs q hq _ (by omega)]
      have u1 := er_u (k := 4 * x + g) (v := C (aMt 0 q) (4 * x + g) - C (aD 0 k) 4) h (e70_Mt (m := q)) hM2 hB2 hN2
      rw [u1.2.2.2.2.2.2.1 a ha _ (by omega)]
      exact er_u (er_u u1 e70_Mt hM2 hB2 hN2) e70_D hM2 hB2 hN2
  · exact h
theorem er_pd (h : er H M B N X C) (hs : sf 0 H M B N C) (hk : sk 0 H M B N C) : er H M B N (f_pd 1 H B N d X) (f_pd 0 H B N d C) := by
  have hM2 := hs.2.1.2
  have hB2 := hs.2.2.1.2
  have hN2 := hs.2.2.2.1.2
  have a1 := it_r2 (R := fun y c => (sf 0 H M B N c ∧ sk 0 H M B N c) ∧ er H M B N y c) ⟨⟨sf_fr (d := d) hs, sk_fr (d := d) hk⟩, er_fr (d := d) h hM2 hB2 hN2⟩ (f := f_py 1) (g := f_py 0) B (fun k y c q r => ⟨⟨sf_py r.1.1 q, sk_py r.1.1 r.1.2 q⟩, er_py r.2 r.1.1 r.1.2 q⟩)
  have a2 := it_r2 (R := fun y c => (sf 0 H M B N c ∧ sk 0 H M B N c) ∧ er H M B N y c) a1 (f := fun k M => f_bi 1 k H (f_go 1 k M)) (g := fun k M => f_bi 0 k H (f_go 0 k M)) B (fun k y c q r => ⟨⟨sf_gb r.1.1 q, sk_gb r.1.1 r.1.2 q⟩, er_bi (er_go r.2 r.1.1 r.1.2 q) (sf_go r.1.1 q) q⟩)
  have a3 := it_r2 (R := fun y c => (sf 0 H M B N c ∧ sk 0 H M B N c) ∧ er H M B N y c) a2 (f := f_se 1) (g := f_se 0) N (fun k y c q r => ⟨⟨sf_se r.1.1 q, sk_se r.1.1 r.1.2 q⟩, er_se r.2 r.1.1 r.1.2 q⟩)
  unfold f_pd
  try dsimp only
  rw [a3.2.2.2.2.2.1]
  exact er_u a3.2 rfl hM2 hB2 hN2
theorem er_ds (h : er H M B N X C) (hs : sf 0 H M B N C) (hk : sk 0 H M B N C) : ∀ k, (sf 0 H M B N (f_ds 0 H B N d C k) ∧ sk 0 H M B N (f_ds 0 H B N d C k)) ∧ er H M B N (f_ds 1 H B N d X k) (f_ds 0 H B N d C k)
  | 0 => ⟨⟨hs, hk⟩, h⟩
  | k + 1 => by
    obtain ⟨⟨h1, h2⟩, h3⟩ := er_ds h hs hk k
    exact ⟨⟨sf_pd h1, sk_pd h1 h2⟩, er_pd h3 h1 h2⟩
theorem er_cp (hs : sf 0 H M B N C) : er H M B N (f_cpW M B N C) C := by
  have hH2 := hs.1.2
  have hM2 := hs.2.1.2
  have hB2 := hs.2.2.1.2
  have hN2 := hs.2.2.2.1.2
  have o : ∀ x, 73 ≤ x ∧ x ≤ 78 → f_cpW M B N C x = f_cpR C x := fun x hx => cp_1 hM2 hN2 hB2 hx
  exact ⟨fun k hk => by rw [o _ (by simp only [aWm]; omega)]; exact cpR_Wm hk, fun k hk => by rw [o _ (by simp only [aLd]; omega)]; exact cpR_Ld (by omega), fun k hk => by rw [o _ (by simp only [aIc]; omega)]; exact cpR_Ic (by omega), fun k hk => by rw [o _ (by simp only [aPr]; omega)]; exact cpR_Pr hk, by rw [o _ (by simp only [aR]; omega)]; exact cpR_R.1, fun m hm => cp_M hM2 hN2 hB2 hm, fun m hm c hc => cp_Mt hM2 hN2 hB2 hm hc, fun b hb s hs => cp_B hM2 hN2 hB2 hb hs, fun k hk s hs => cp_D hM2 hN2 hB2 hk hs⟩
theorem ds_s : ∀ k, f_ds 0 H B N d C (k + 1) = f_ds 0 H B N (d + 1) (f_pd 0 H B N d C) k
  | 0 => rfl
  | k + 1 => by
    show f_pd 0 H B N (d + (k + 1)) (f_ds 0 H B N d C (k + 1)) = f_pd 0 H B N (d + 1 + k) (f_ds 0 H B N (d + 1) (f_pd 0 H B N d C) k)
    rw [ds_s k, show d + (k + 1) = d + 1 + k by omega]
def g_a0 (H B N b d : Nat) (C : jj_I) (k : Nat) : Option Int32 := if f_ds 0 H B N d C k (aB 0 b) 3 = 3 then some (-1) else if (f_ds 0 H B N d C k (aB 0 b) 3 = 0 ∨ f_ds 0 H B N d C k (aB 0 b) 3 = 1) ∧ f_ds 0 H B N d C k (aB 0 b) 4 = f_ds 0 H B N d C k (aB 0 b) 6 then some (nI k) else none
theorem ga_eq {b : Nat} (hs : sf 0 H M B N C) (hk : sk 0 H M B N C) (hb : b < B) (k : Nat) : g_ar H M B N b d C k = g_a0 H B N b d C k := by
  have r := (er_ds (d := d) (er_cp hs) hs hk k).2.2.2.2.2.2.2.2.1 b hb
  unfold g_ar g_a0
  try dsimp only
  rw [r 3 (by decide), r 4 (by decide), r 6 (by decide)]
theorem arv_s {b : Nat} (hs : sf 0 H M B N C) (hk : sk 0 H M B N C) (hb : b < B) : (1 < f_fs (g_ar H M B N b d C) 201 0 → f_fs (g_ar H M B N b (d + 1) (f_pd 0 H B N d C)) 201 0 = f_fs (g_ar H M B N b d C) 201 0 - 1) ∧
    (f_fs (g_ar H M B N b d C) 201 0 = 1 → (f_pd 0 H B N d C (aB 0 b) 3 = 0 ∨ f_pd 0 H B N d C (aB 0 b) 3 = 1) ∧ f_pd 0 H B N d C (aB 0 b) 4 = f_pd 0 H B N d C (aB 0 b) 6) := by
  have e1 : g_ar H M B N b d C = g_a0 H B N b d C := funext (fun k => ga_eq hs hk hb k)
  have e2 : g_ar H M B N b (d + 1) (f_pd 0 H B N d C) = g_a0 H B N b (d + 1) (f_pd 0 H B N d C) := funext (fun k => ga_eq (sf_pd hs) (sk_pd hs hk) hb k)
  rw [e1, e2]
  have gs : ∀ j r, g_a0 H B N b d C j = some r → r = -1 ∨ (r = nI j ∧ (¬ f_ds 0 H B N d C j (aB 0 b) 3 = 3) ∧ (f_ds 0 H B N d C j (aB 0 b) 3 = 0 ∨ f_ds 0 H B N d C j (aB 0 b) 3 = 1) ∧ f_ds 0 H B N d C j (aB 0 b) 4 = f_ds 0 H B N d C j (aB 0 b) 6) := fun j r h => by
    unfold g_a0 at h
    by_cases c : f_ds 0 H B N d C j (aB 0 b) 3 = 3
    · rw [if_pos c] at h; exact Or.inl (Option.some.inj h).symm
    · rw [if_neg c] at h
      by_cases c2 : (f_ds 0 H B N d C j (aB 0 b) 3 = 0 ∨ f_ds 0 H B N d C j (aB 0 b) 3 = 1) ∧ f_ds 0 H B N d C j (aB 0 b) 4 = f_ds 0 H B N d C j (aB 0 b) 6
      · rw [if_pos c2] at h; exact Or.inr ⟨(Option.some.inj h).symm, c, c2⟩
      · rw [if_neg c2] at h; exact absurd h (by simp)
  have hj1 : ∀ k, g_a0 H B N b d C (k + 1) = none → g_a0 H B N b (d + 1) (f_pd 0 H B N d C) k = none := fun k h => by
    unfold g_a0 at h ⊢
    rw [ds_s k] at h
    split at h
    · exact absurd h (by simp)
    · rename_i c
      split at h
      · exact absurd h (by simp)
      · rename_i c2
        rw [if_neg c, if_neg c2]
  rcases fs_ex (g := g_a0 H B N b d C) 201 0 with h | ⟨j, h1, h2, h3, h4⟩
  · rw [h]
    exact ⟨fun q => absurd q (by decide), fun q => absurd q (by decide)⟩
  · rcases gs _ _ h3 with er | ⟨er, n3, c⟩
    · rw [er]
      exact ⟨fun q => absurd q (by decide), fun q => absurd q (by decide)⟩
    · rw [er]
      refine ⟨fun q => ?_, fun q => ?_⟩
      · have j1 := (i_1lt (by omega)).mp q
        obtain ⟨i, rfl⟩ : ∃ i, j = i + 1 := ⟨j - 1, by omega⟩
        have hh : g_a0 H B N b (d + 1) (f_pd 0 H B N d C) i = some (nI i) := by
          unfold g_a0
          rw [← ds_s i, if_neg n3, if_pos c]
        rw [nI_pred, fs_at hh 201 0 (by omega) (by omega) (fun x q1 q2 => hj1 x (h4 (x + 1) (by omega) (by omega)))]
      · have j1 : j = 1 := by
          have h5 := congrArg nv q
          rw [nv_nI (by omega)] at h5
          exact h5
        subst j1
        exact c
end DR
