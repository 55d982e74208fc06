/-! lending, days, the mean, the looks ahead: the numbers -/
section TR
variable {w t H M B N d : Nat} {C J : jj_I}
theorem tc_lend {a b hh g : Nat} {y v : Int32} (h : tn_c t H M B N C) (ht : t + 1 ≤ 512) (ha : a < M) (hb : b < M) (hh2 : hh < H) (hg4 : g < 4) (hN : N < 30) (hy : 1 ≤ y) (he : y ≤ C (aMt 0 a) (hh * 4 + g)) : tn_c (t + 1) H M B (N + 1) (f_lend a b hh g N y v C) := by
  obtain ⟨hs, hk, ⟨d, d1, d2⟩, hg, hn⟩ := id h
  obtain ⟨z1, z2, z3⟩ := sf_Z hs
  have hH := hs.1.2
  have hc : hh * 4 + g < 32 := by omega
  have hS := tg_S hg (m := a) (by omega) hc
  have eS := hg.2.2.2.1 a (by omega) _ hc
  obtain ⟨j, j1, j2, rfl⟩ := tn_rg (a := 1) (b := nv (C (aMt 0 a) (hh * 4 + g))) ⟨hy, he⟩ rfl eS (by decide) (by omega)
  have ev : nI j + nI j / 10 = nI (j + j / 10) := by
    rw [show nI j / 10 = nI (j / 10) from pk_div (d := 10) (by omega) (by decide) (by decide), nI_add]
  have hg1 : tn_g 0 (t + 1) N (f_hd 0 a b (hh * 4 + g) (nI j) C) := tg_t (tg_hd hg (by omega) (by omega) hc rfl j2) (by omega) ht
  have h1 : tn_c (t + 1) H M B N (f_hd 0 a b (hh * 4 + g) (nI j) C) := tc_mer h (fun x hx => by
    unfold f_hd
    rw [jj_u_ne (hx b (by omega)).2, jj_u_ne (hx a (by omega)).2]) hg1
  unfold f_lend
  rw [ev]
  generalize f_hd 0 a b (hh * 4 + g) (nI j) C = S at h1 ⊢
  obtain ⟨⟨⟨q1, q1'⟩, ⟨q2, q2'⟩, ⟨q3, q3'⟩, ⟨q4, q4'⟩, q5, q6⟩, ⟨k1, k2, k3⟩, ⟨d, d1, d2⟩, hg, hn⟩ := h1
  have ho : ∀ x, x ≠ aW 0 → x ≠ aD 0 N → jj_u (f_op 0 N (nI a) (nI b) (nI hh) (nI g) (nI (j + j / 10)) v S) (aW 0) 3 (nI (N + 1)) x = S x := fun x e1 e2 => by
    rw [jj_u_ne e1, fr_op e2]
  have hne : aW 0 ≠ aD 0 N := by simp only [aW, aD]; omega
  have eW : ∀ s, jj_u (f_op 0 N (nI a) (nI b) (nI hh) (nI g) (nI (j + j / 10)) v S) (aW 0) 3 (nI (N + 1)) (aW 0) s = if s = 3 then nI (N + 1) else S (aW 0) s := fun s => by
    by_cases e : s = 3
    · subst e; rw [jj_u_eq, if_pos rfl]
    · rw [jj_u_nk e, if_neg e, fr_op hne]
  have eD0 : jj_u (f_op 0 N (nI a) (nI b) (nI hh) (nI g) (nI (j + j / 10)) v S) (aW 0) 3 (nI (N + 1)) (aD 0 N) 0 = nI a := by
    rw [jj_u_ne (Ne.symm hne)]; unfold f_op
    rw [jj_u_nk (by decide), jj_u_nk (by decide), jj_u_nk (by decide), jj_u_nk (by decide), jj_u_nk (by decide), jj_u_nk (by decide), jj_u_eq]
  have eD1 : jj_u (f_op 0 N (nI a) (nI b) (nI hh) (nI g) (nI (j + j / 10)) v S) (aW 0) 3 (nI (N + 1)) (aD 0 N) 1 = nI b := by
    rw [jj_u_ne (Ne.symm hne)]; unfold f_op
    rw [jj_u_nk (by decide), jj_u_nk (by decide), jj_u_nk (by decide), jj_u_nk (by decide), jj_u_nk (by decide), jj_u_eq]
  have eD2 : jj_u (f_op 0 N (nI a) (nI b) (nI hh) (nI g) (nI (j + j / 10)) v S) (aW 0) 3 (nI (N + 1)) (aD 0 N) 2 = nI hh := by
    rw [jj_u_ne (Ne.symm hne)]; unfold f_op
    rw [jj_u_nk (by decide), jj_u_nk (by decide), jj_u_nk (by decide), jj_u_nk (by decide), jj_u_eq]
  have eD3 : jj_u (f_op 0 N (nI a) (nI b) (nI hh) (nI g) (nI (j + j / 10)) v S) (aW 0) 3 (nI (N + 1)) (aD 0 N) 3 = nI g := by
    rw [jj_u_ne (Ne.symm hne)]; unfold f_op
    rw [jj_u_nk (by decide), jj_u_nk (by decide), jj_u_nk (by decide), jj_u_eq]
  have eD4 : jj_u (f_op 0 N (nI a) (nI b) (nI hh) (nI g) (nI (j + j / 10)) v S) (aW 0) 3 (nI (N + 1)) (aD 0 N) 4 = nI (j + j / 10) := by
    rw [jj_u_ne (Ne.symm hne)]; unfold f_op
    rw [jj_u_nk (by decide), jj_u_nk (by decide), jj_u_eq]
  generalize jj_u (f_op 0 N (nI a) (nI b) (nI hh) (nI g) (nI (j + j / 10)) v S) (aW 0) 3 (nI (N + 1)) = J at ho eW eD0 eD1 eD2 eD3 eD4 ⊢
  have oB : ∀ q, q < 10 → J (aB 0 q) = S (aB 0 q) := fun q _ => ho _ (by simp only [aB, aW]; omega) (by simp only [aB, aD]; omega)
  have oC : ∀ q, q < 10 → J (aBc 0 q) = S (aBc 0 q) := fun q _ => ho _ (by simp only [aBc, aW]; omega) (by simp only [aBc, aD]; omega)
  have oD : ∀ q, q < 30 → q ≠ N → J (aD 0 q) = S (aD 0 q) := fun q _ e => ho _ (by simp only [aD, aW]; omega) (by simp only [aD]; omega)
  have oM : ∀ q, q < 5 → J (aM 0 q) = S (aM 0 q) := fun q _ => ho _ (by simp only [aM, aW]; omega) (by simp only [aM, aD]; omega)
  have oS : ∀ q, q < 5 → J (aMt 0 q) = S (aMt 0 q) := fun q _ => ho _ (by simp only [aMt, aW]; omega) (by simp only [aMt, aD]; omega)
  have o9 : ∀ x, x < 12 → x ≠ aW 0 → J x = S x := fun x hx e => ho _ e (by simp only [aD]; omega)
  refine ⟨⟨⟨by rw [o9 _ (by decide) (by decide)]; exact q1, q1'⟩, ⟨by rw [eW]; exact q2, q2'⟩, ⟨by rw [eW]; exact q3, q3'⟩, ⟨eW 3, by omega⟩, fun q hq => sfB_cg (oB q (by omega)) (q5 q hq), fun q hq => ?_⟩, ⟨fun l hl => by rw [o9 _ (by decide) (by decide)]; exact k1 l hl, fun q hq => ?_, fun q hq => ?_⟩, ⟨d, d1, by rw [o9 _ (by decide) (by decide)]; exact d2⟩, ?_, tb_cg hn oB z2 oC (o9 _ (by decide) (by decide))⟩
  · by_cases e : q = N
    · subst e
      unfold sfD
      rw [eD0, eD1, eD2, eD3]
      exact ⟨⟨a, by omega, rfl⟩, ⟨b, by omega, rfl⟩, ⟨hh, hh2, rfl⟩, ⟨g, hg4, rfl⟩⟩
    · exact sfD_cg (oD q (by omega) e) (q6 q (by omega))
  · exact ⟨sfG_cg (oB q (by omega)) (k2 q hq).1, by rw [oB q (by omega)]; exact (k2 q hq).2⟩
  · by_cases e : q = N
    · subst e
      rw [eD0, eD1]
      exact ⟨⟨a, ha, rfl⟩, ⟨b, hb, rfl⟩⟩
    · rw [oD q (by omega) e]; exact k3 q (by omega)
  · obtain ⟨a0, a1, a2, a3, a4, a5, a6⟩ := hg
    refine ⟨a0, fun k hk => by rw [o9 _ (by decide) (by decide)]; exact a1 k hk, fun m hm => by rw [oM m hm]; exact a2 m hm, fun m hm k hk => by rw [oS m hm]; exact a3 m hm k hk, fun q hq g hg => by rw [oC q hq]; exact a4 q hq g hg, fun q hq => ?_, by rw [tS_cg oS, tK_cg oC, tC_cg (fun m hm => by rw [oM m hm])]; exact a6⟩
    by_cases e : q = N
    · subst e
      exact ⟨_, by omega, eD4⟩
    · rw [oD q (by omega) e]; exact a5 q (by omega)
theorem tc_repay {k hh : Nat} (h : tn_c t H M B N C) (ht : t + 1 ≤ 512) (hk : k < N) (hh2 : hh < H) (he : C (aD 0 k) 4 ≤ C (aMt 0 (nv (C (aD 0 k) 1))) (hh * 4 + nv (C (aD 0 k) 3))) : tn_c (t + 1) H M B N (f_repay k hh C) := by
  obtain ⟨hs, hk0, ⟨d, d1, d2⟩, hg, hn⟩ := id h
  obtain ⟨z1, z2, z3⟩ := sf_Z hs
  have hH := hs.1.2
  obtain ⟨⟨a, ha, e0⟩, ⟨q, hq, e1⟩, -, ⟨g, hg4, e3⟩⟩ := hs.2.2.2.2.2 k hk
  obtain ⟨m, hm, em⟩ := hg.2.2.2.2.2.1 k hk
  have hc : hh * 4 + g < 32 := by omega
  have hS := tg_S hg hq hc
  have eS := hg.2.2.2.1 q hq _ hc
  unfold f_repay
  rw [e1, e3, nv_nI (by omega), nv_nI (by omega), em, eS] at he
  rw [e1, e0, e3, nv_nI (by omega), nv_nI (by omega), nv_nI (by omega), em]
  have hle : m ≤ nv (C (aMt 0 q) (hh * 4 + g)) := (nI_leI (by omega) (by omega)).mp he
  have hg1 : tn_g 0 (t + 1) N (f_hd 0 q a (hh * 4 + g) (nI m) C) := tg_t (tg_hd hg hq ha hc rfl hle) (by omega) ht
  have h1 : tn_c (t + 1) H M B N (f_hd 0 q a (hh * 4 + g) (nI m) C) := tc_mer h (fun x hx => by
    unfold f_hd
    rw [jj_u_ne (hx a ha).2, jj_u_ne (hx q hq).2]) hg1
  generalize f_hd 0 q a (hh * 4 + g) (nI m) C = S at h1 ⊢
  obtain ⟨⟨⟨q1, q1'⟩, ⟨q2, q2'⟩, ⟨q3, q3'⟩, ⟨q4, q4'⟩, q5, q6⟩, ⟨k1, k2, k3⟩, ⟨d, d1, d2⟩, hg, hn⟩ := h1
  have ho : ∀ x, x ≠ aD 0 k → jj_u S (aD 0 k) 6 1 x = S x := fun x e => jj_u_ne e
  have o9 : ∀ x, x < 12 → jj_u S (aD 0 k) 6 1 x = S x := fun x hx => ho _ (by simp only [aD]; omega)
  have eD : ∀ x s, s ≠ 6 → jj_u S (aD 0 k) 6 1 (aD 0 x) s = S (aD 0 x) s := fun x s hs => by
    by_cases e : x = k
    · subst e; rw [jj_u_nk hs]
    · rw [ho _ (by simp only [aD]; omega)]
  refine ⟨⟨⟨by rw [o9 _ (by decide)]; exact q1, q1'⟩, ⟨by rw [o9 _ (by decide)]; exact q2, q2'⟩, ⟨by rw [o9 _ (by decide)]; exact q3, q3'⟩, ⟨by rw [o9 _ (by decide)]; exact q4, q4'⟩, fun x hx => sfB_cg (ho _ (by simp only [aB, aD]; omega)) (q5 x hx), fun x hx => ?_⟩, ⟨fun l hl => by rw [o9 _ (by decide)]; exact k1 l hl, fun x hx => ?_, fun x hx => ?_⟩, ⟨d, d1, by rw [o9 _ (by decide)]; exact d2⟩, tg_d6 hg (by omega), tb_cg hn (fun x _ => ho _ (by simp only [aB, aD]; omega)) z2 (fun x _ => ho _ (by simp only [aBc, aD]; omega)) (o9 _ (by decide))⟩
  · unfold sfD
    rw [eD x 0 (by decide), eD x 1 (by decide), eD x 2 (by decide), eD x 3 (by decide)]
    exact q6 x hx
  · have e := ho (aB 0 x) (by simp only [aB, aD]; omega)
    exact ⟨sfG_cg e (k2 x hx).1, by rw [e]; exact (k2 x hx).2⟩
  · rw [eD x 0 (by decide), eD x 1 (by decide)]
    exact k3 x hx
theorem ds_n (hs : sf 0 H M B N C) (hk : sk 0 H M B N C) (hg : tn_g 0 t N C) (hb : tn_b 0 H B C) : ∀ k, sf 0 H M B N (f_ds 0 H B N d C k) ∧ sk 0 H M B N (f_ds 0 H B N d C k) ∧ tn_g 0 t N (f_ds 0 H B N d C k) ∧ tn_b 0 H B (f_ds 0 H B N d C k)
  | 0 => ⟨hs, hk, hg, hb⟩
  | k + 1 => by
    obtain ⟨h1, h2, h3, h4⟩ := ds_n hs hk hg hb k
    have q := pd_n (d := d + k) h1 h2 h3 h4
    exact ⟨sf_pd h1, sk_pd h1 h2, q.1, q.2⟩
theorem tc_pass {y : Nat} (h : tn_c t H M B N C) (ht : t + 1 ≤ 512) (hd : C (aR 0) 0 = nI d) (hd2 : d ≤ 200 * t) (hy : y ≤ 200) : tn_c (t + 1) H M B N (f_ds 0 H B N d C y) := by
  obtain ⟨hs, hk, -, hg, hb⟩ := h
  obtain ⟨h1, h2, h3, h4⟩ := ds_n (d := d) hs hk hg hb y
  exact ⟨h1, h2, ⟨d + y, by omega, (ds_ok hs (by decide) hd y).2.1⟩, tg_t h3 (by omega) ht, h4⟩
theorem tc_E (h : tn_c t H M B N C) : sfE 0 H C := fun q hq => by
  obtain ⟨e, e1, e2, -⟩ := h.2.2.2.2.2.2 q hq
  exact ⟨e, e1, e2⟩
/-- the mean's numbers -/
theorem tc_mean (h : tn_c t H M B N C) : ∃ s c, nI B - sm (q_bi 0 3 C) B = nI c ∧ sm (fun b => C (aB 0 b) 1) B = nI s ∧ c < 11 ∧ s < 201 ∧ ∀ b, b < B → C (aB 0 b) 3 = 3 → C (aB 0 b) 1 = 0 := by
  obtain ⟨hs, hk, -, hg, hn⟩ := h
  have hB := hs.2.2.1.2
  have e1 : sm (q_bi 0 3 C) B = nI (tn_ts (fun b => if C (aB 0 b) 3 = 3 then 1 else 0) B) := tn_sm (fun b _ => by
    unfold q_bi
    by_cases c : C (aB 0 b) 3 = 3
    · rw [if_pos c, if_pos c]; rfl
    · rw [if_neg c, if_neg c]; rfl)
  have b1 : tn_ts (fun b => if C (aB 0 b) 3 = 3 then 1 else 0) B ≤ 1 * B := tn_bnd (fun b _ => by split <;> omega)
  have hh : ∀ b, b < B → ∃ x, x ≤ 20 ∧ C (aB 0 b) 1 = nI x := fun b hb => by
    by_cases c : C (aB 0 b) 3 = 3
    · exact ⟨0, by decide, by rw [(hn.1 b hb).1.1 c, nI_0]⟩
    · obtain ⟨x, x1, x2, x3⟩ := (hn.1 b hb).1.2 c
      exact ⟨x, x2, x3⟩
  have e2 : sm (fun b => C (aB 0 b) 1) B = nI (tn_ts (fun b => nv (C (aB 0 b) 1)) B) := tn_sm (fun b hb => by
    obtain ⟨x, x1, x2⟩ := hh b hb
    rw [x2, nv_nI (by omega)])
  have b2 : tn_ts (fun b => nv (C (aB 0 b) 1)) B ≤ 20 * B := tn_bnd (fun b hb => by
    obtain ⟨x, x1, x2⟩ := hh b hb
    rw [x2, nv_nI (by omega)]
    exact x1)
  exact ⟨_, _, by rw [e1, nI_sb (by omega)], e2, by omega, by omega, fun b hb c => (hn.1 b hb).1.1 c⟩
/-- a boat that is sunk along the days ahead has no hull -/
theorem hu_bg {b : Nat} (h : tn_hu w C b) : tn_hu w (f_bg w b B C) b := by
  unfold f_bg
  split
  · rename_i c
    refine ⟨fun e => ?_, fun _ => ?_⟩
    · rw [jj_u_eq] at e
      exact absurd e (by decide)
    · rw [jj_u_nk (by decide)]
      exact h.2 (by rw [c.1]; decide)
  · exact h
end TR
