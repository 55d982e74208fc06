/-! each call's keeping of it: merchants, boats, debts, days -/
section TP
variable {w t H M B N : Nat} {C J : jj_I}
theorem tc_mer2 {y : Int32} (h : tn_c t H M B N C) (ht : t + 1 ≤ 512) (hy : 0 ≤ y ∧ y ≤ 5000) (hM : M < 5) : tn_c (t + 1) H (M + 1) B N (jj_u (jj_u C (aM 0 M) 0 y) (aW 0) 1 (nI (M + 1))) := by
  obtain ⟨j, j1, j2, rfl⟩ := tn_rg (a := 0) (b := 5000) hy rfl rfl (by decide) (by decide)
  have hg := h.2.2.2.1
  have eT := hg.2.2.2.2.2.2
  have h1 : tn_c (t + 1) H M B N (jj_u C (aM 0 M) 0 (nI j)) := tc_mer h (fun a ha => jj_u_ne (ha M hM).1) (tg_coin (v := j) hg hM rfl ht (by omega))
  generalize jj_u C (aM 0 M) 0 (nI j) = J at h1 ⊢
  have ho : ∀ a, a ≠ aW 0 → jj_u J (aW 0) 1 (nI (M + 1)) a = J a := fun a e => jj_u_ne e
  obtain ⟨⟨⟨q1, q1'⟩, ⟨q2, q2'⟩, ⟨q3, q3'⟩, ⟨q4, q4'⟩, q5, q6⟩, ⟨k1, k2, k3⟩, ⟨d, d1, d2⟩, hg1, hb1⟩ := h1
  refine ⟨⟨⟨by rw [ho _ (by decide)]; exact q1, q1'⟩, ⟨jj_u_eq, by omega⟩, ⟨by rw [jj_u_nk (by decide)]; exact q3, q3'⟩, ⟨by rw [jj_u_nk (by decide)]; exact q4, q4'⟩, fun b hb => sfB_cg (ho _ (by simp only [aB, aW]; omega)) (q5 b hb), fun d hd => sfD_cg (ho _ (by simp only [aD, aW]; omega)) (q6 d hd)⟩, ⟨fun l hl => by rw [ho _ (by decide)]; exact k1 l hl, fun b hb => ?_, fun d hd => ?_⟩, ⟨d, d1, by rw [ho _ (by decide)]; exact d2⟩, tg_at hg1 ho (by decide) (fun m _ => by simp only [aW, aM]; omega) (fun m _ => by simp only [aW, aMt]; omega) (fun m _ => by simp only [aW, aBc]; omega) (fun m _ => by simp only [aW, aD]; omega), tb_cg hb1 (fun b _ => ho _ (by simp only [aB, aW]; omega)) q3' (fun b _ => ho _ (by simp only [aBc, aW]; omega)) (ho _ (by decide))⟩
  · have e : jj_u J (aW 0) 1 (nI (M + 1)) (aB 0 b) = J (aB 0 b) := ho _ (by simp only [aB, aW]; omega)
    obtain ⟨o, o1, o2⟩ := (k2 b hb).2
    exact ⟨sfG_cg e (k2 b hb).1, ⟨o, by omega, by rw [e]; exact o2⟩⟩
  · rw [ho (aD 0 d) (by simp only [aD, aW]; omega)]
    obtain ⟨⟨a, a1, a2⟩, ⟨q, q1, q2⟩⟩ := k3 d hd
    exact ⟨⟨a, by omega, a2⟩, ⟨q, by omega, q2⟩⟩
theorem tc_build {m hh : Nat} {y : Int32} (h : tn_c t H M B N C) (ht : t + 1 ≤ 512) (hm : m < M) (hh2 : hh < H) (hy : 1 ≤ y ∧ y ≤ 60) (hB : B < 10) : tn_c (t + 1) H M (B + 1) N (jj_u (f_la 0 B (nI m) (nI hh) y C) (aW 0) 2 (nI (B + 1))) := by
  obtain ⟨r, r1, r2, rfl⟩ := tn_rg (a := 1) (b := 60) hy rfl rfl (by decide) (by decide)
  obtain ⟨⟨⟨q1, q1'⟩, ⟨q2, q2'⟩, ⟨q3, q3'⟩, ⟨q4, q4'⟩, q5, q6⟩, ⟨k1, k2, k3⟩, ⟨d, d1, d2⟩, hg, hb⟩ := h
  have ho : ∀ a, a ≠ aW 0 → a ≠ aB 0 B → jj_u (f_la 0 B (nI m) (nI hh) (nI r) C) (aW 0) 2 (nI (B + 1)) a = C a := fun a e1 e2 => by
    unfold f_la
    rw [jj_u_ne e1, jj_u_ne e2, jj_u_ne e2, jj_u_ne e2, jj_u_ne e2, jj_u_ne e2, jj_u_ne e2]
  have eW : ∀ s, jj_u (f_la 0 B (nI m) (nI hh) (nI r) C) (aW 0) 2 (nI (B + 1)) (aW 0) s = if s = 2 then nI (B + 1) else C (aW 0) s := fun s => by
    have hne : aW 0 ≠ aB 0 B := by simp only [aW, aB]; omega
    by_cases e : s = 2
    · subst e; rw [jj_u_eq, if_pos rfl]
    · rw [jj_u_nk e, if_neg e]
      unfold f_la
      rw [jj_u_ne hne, jj_u_ne hne, jj_u_ne hne, jj_u_ne hne, jj_u_ne hne, jj_u_ne hne]
  have eB : ∀ s, jj_u (f_la 0 B (nI m) (nI hh) (nI r) C) (aW 0) 2 (nI (B + 1)) (aB 0 B) s = if s = 0 then nI m else if s = 1 then 20 else if s = 2 then nI r else if s = 3 then 0 else if s = 4 then nI hh else if s = 6 then nI hh else C (aB 0 B) s := fun s => by
    rw [jj_u_ne (show aB 0 B ≠ aW 0 by simp only [aW, aB]; omega)]
    unfold f_la
    by_cases e6 : s = 6
    · subst e6; rw [jj_u_eq]; rfl
    · rw [jj_u_nk e6]
      by_cases e4 : s = 4
      · subst e4; rw [jj_u_eq]; rfl
      · rw [jj_u_nk e4]
        by_cases e3 : s = 3
        · subst e3; rw [jj_u_eq]; rfl
        · rw [jj_u_nk e3]
          by_cases e2 : s = 2
          · subst e2; rw [jj_u_eq]; rfl
          · rw [jj_u_nk e2]
            by_cases e1 : s = 1
            · subst e1; rw [jj_u_eq]; rfl
            · rw [jj_u_nk e1]
              by_cases e0 : s = 0
              · subst e0; rw [jj_u_eq]; rfl
              · rw [jj_u_nk e0, if_neg e0, if_neg e1, if_neg e2, if_neg e3, if_neg e4, if_neg e6]
  generalize jj_u (f_la 0 B (nI m) (nI hh) (nI r) C) (aW 0) 2 (nI (B + 1)) = J at ho eW eB ⊢
  have eB3 : J (aB 0 B) 3 = 0 := eB 3
  have oB : ∀ b, b < 10 → b ≠ B → J (aB 0 b) = C (aB 0 b) := fun b _ e => ho _ (by simp only [aB, aW]; omega) (by simp only [aB]; omega)
  have oC : ∀ b, b < 10 → J (aBc 0 b) = C (aBc 0 b) := fun b _ => ho _ (by simp only [aBc, aW]; omega) (by simp only [aBc, aB]; omega)
  have oD : ∀ b, b < 30 → J (aD 0 b) = C (aD 0 b) := fun b _ => ho _ (by simp only [aD, aW]; omega) (by simp only [aD, aB]; omega)
  have o9 : ∀ a, a < 12 → a ≠ aW 0 → J a = C a := fun a ha e => ho _ e (by simp only [aB]; omega)
  refine ⟨⟨⟨by rw [o9 _ (by decide) (by decide)]; exact q1, q1'⟩, ⟨by rw [eW]; exact q2, q2'⟩, ⟨eW 2, by omega⟩, ⟨by rw [eW]; exact q4, q4'⟩, fun b hb => ?_, fun d hd => sfD_cg (oD d (by omega)) (q6 d hd)⟩, ⟨fun l hl => by rw [o9 _ (by decide) (by decide)]; exact k1 l hl, fun b hb => ?_, fun d hd => by rw [oD d (by omega)]; exact k3 d hd⟩, ⟨d, by omega, by rw [o9 _ (by decide) (by decide)]; exact d2⟩, tg_t (tg_cg hg (fun k _ => by rw [o9 _ (by decide) (by decide)]) (fun m hm => by rw [ho _ (by simp only [aM, aW]; omega) (by simp only [aM, aB]; omega)]) (fun m hm => ho _ (by simp only [aMt, aW]; omega) (by simp only [aMt, aB]; omega)) (fun b hb => oC b hb) (fun d hd => by rw [oD d (by omega)])) (by omega) ht, fun b hb2 => ?_, fun b z1 z2 => ?_, fun q hq => ?_⟩
  · by_cases e : b = B
    · subst e
      unfold sfB
      rw [eB 0, eB3, eB 4, eB 5, eB 6]
      exact ⟨⟨m, by omega, rfl⟩, Or.inl rfl, fun _ => ⟨hh, hh2, rfl⟩, fun z => absurd z (by decide), ⟨hh, hh2, rfl⟩⟩
    · exact sfB_cg (oB b (by omega) e) (q5 b (by omega))
  · by_cases e : b = B
    · subst e
      refine ⟨fun z => ?_, ⟨m, hm, eB 0⟩⟩
      rw [eB3] at z
      exact absurd z (by decide)
    · have ee := oB b (by omega) e
      exact ⟨sfG_cg ee (k2 b (by omega)).1, by rw [ee]; exact (k2 b (by omega)).2⟩
  · by_cases e : b = B
    · subst e
      have hf := hb.2.1 b (Nat.le_refl _) (by omega)
      refine ⟨⟨fun z => ?_, fun _ => ⟨20, by decide, by decide, eB 1⟩⟩, ⟨r, r2, eB 2, ?_⟩⟩
      · rw [eB3] at z
        exact absurd z (by decide)
      · rw [oC b (by omega), tn_zero (fun g hg => by rw [hf.2 g hg]; rfl)]
        exact Nat.zero_le _
    · have ee := oB b (by omega) e
      exact ⟨hu_cg (by rw [ee]) (by rw [ee]) (hb.1 b (by omega)).1, ro_cg (by rw [ee]) (oC b (by omega)) (hb.1 b (by omega)).2⟩
  · exact fb_cg (oB b z2 (by omega)) (oC b z2) (hb.2.1 b (by omega) z2)
  · obtain ⟨e, e1, e2, e3⟩ := hb.2.2 q hq
    refine ⟨e, e1, by rw [o9 _ (by decide) (by decide)]; exact e2, ?_⟩
    have l1 : tn_ts (tn_q 0 q J) B = tn_ts (tn_q 0 q C) B := tn_cg (fun b hb => by unfold tn_q; rw [oB b (by omega) (by omega)])
    have l2 : tn_q 0 q J B = 0 := by
      unfold tn_q
      rw [eB3]
      exact if_neg (fun z => absurd z.1 (by decide))
    show tn_ts (tn_q 0 q J) B + tn_q 0 q J B ≤ e
    rw [l1, l2]
    exact e3
theorem tc_send {b hh : Nat} (h : tn_c t H M B N C) (ht : t + 1 ≤ 512) (hb : b < B) (hh2 : hh < H) : tn_c (t + 1) H M B N (jj_u C (aB 0 b) 6 (nI hh)) := by
  obtain ⟨hs, hk, ⟨d, d1, d2⟩, hg, hn⟩ := h
  obtain ⟨z1, z2, z3⟩ := sf_Z hs
  have ho : ∀ a, a ≠ aB 0 b → jj_u C (aB 0 b) 6 (nI hh) a = C a := fun a e => jj_u_ne e
  have hs2 := hs.2.2.2.2.1 b hb
  have hk2 := hk.2.1 b hb
  refine ⟨sf_bo hs (by omega) (fun a e _ _ => ho a e) (fun _ => ?_), sk_bo hk ⟨z1, z2, z3⟩ hb (fun a e _ _ => ho a e) (jj_u_nk (by decide)) ?_, ⟨d, by omega, by rw [ho _ (by simp only [aR, aB]; omega)]; exact d2⟩, tg_t (tg_B (k := b) hg (by omega) ho) (by omega) ht, tb_bo hn hb z2 (fun q _ e => ⟨ho _ (by simp only [aB]; omega), ho _ (by simp only [aBc, aB]; omega)⟩) (ho _ (by simp only [aBe, aB]; omega)) (hu_cg (jj_u_nk (by decide)) (jj_u_nk (by decide)) (hn.1 b hb).1) (ro_cg (jj_u_nk (by decide)) (ho _ (by simp only [aBc, aB]; omega)) (hn.1 b hb).2) (fun e => ?_)⟩
  · unfold sfB
    rw [jj_u_nk (by decide), jj_u_nk (by decide), jj_u_nk (by decide), jj_u_nk (by decide), jj_u_eq]
    exact ⟨hs2.1, hs2.2.1, hs2.2.2.1, hs2.2.2.2.1, ⟨hh, hh2, rfl⟩⟩
  · unfold sfG
    rw [jj_u_nk (by decide), jj_u_nk (by decide)]
    exact hk2.1
  · rw [jj_u_nk (by decide)] at e
    rw [jj_u_nk (by decide)]
    exact ⟨e, rfl⟩
/-- how many berths are taken -/
theorem tn_tk {h : Nat} : sm (q_bl w (nI h) 1 C) B = nI (tn_ts (tn_q w h C) B) := tn_sm (fun b _ => by
  unfold q_bl tn_q
  by_cases c : C (aB w b) 3 = 1 ∧ C (aB w b) 4 = nI h
  · rw [if_pos c, if_pos c]; rfl
  · rw [if_neg c, if_neg c]; rfl)
theorem tc_taken {b : Nat} (h : tn_c t H M B N C) (hb : b < B) (hp : C (aB 0 b) 3 = 0 ∨ C (aB 0 b) 3 = 1) : ∃ hh e c, hh < H ∧ C (aB 0 b) 4 = nI hh ∧ e ≤ 5 ∧ C (aBe 0) hh = nI e ∧ c ≤ e ∧ sm (q_bl 0 (C (aB 0 b) 4) 1 C) B = nI c ∧ c = tn_ts (tn_q 0 hh C) B := by
  obtain ⟨hs, hk, -, hg, hn⟩ := h
  obtain ⟨-, -, q3, -⟩ := hs.2.2.2.2.1 b hb
  obtain ⟨hh, h1, h2⟩ := q3 (by rcases hp with q | q <;> rw [q] <;> decide)
  obtain ⟨e, e1, e2, e3⟩ := hn.2.2 hh h1
  exact ⟨hh, e, _, h1, h2, e1, e2, e3, by rw [h2, tn_tk], rfl⟩
theorem tc_hv {b : Nat} (h : tn_c t H M B N C) (hb : b < B) (hp : C (aB 0 b) 3 = 0 ∨ C (aB 0 b) 3 = 1) (hf : C (aBe 0) (nv (C (aB 0 b) 4)) - sm (q_bl 0 (C (aB 0 b) 4) 1 C) B < 1) : sm (q_bl 0 (C (aB 0 b) 4) 1 C) B = C (aBe 0) (nv (C (aB 0 b) 4)) := by
  obtain ⟨hh, e, c, h1, h2, e1, e2, e3, e4, -⟩ := tc_taken h hb hp
  have hH := h.1.1.2
  rw [e4, h2, nv_nI (by omega), e2] at hf ⊢
  rw [nI_sb e3] at hf
  have : ¬ 1 ≤ e - c := fun q => absurd hf (Int32.not_lt.mpr (by show nI 1 ≤ nI (e - c); exact nI_le q (by omega)))
  rw [show c = e by omega]
theorem tc_berth {b : Nat} {z : Int32} (h : tn_c t H M B N C) (ht : t + 1 ≤ 512) (hb : b < B) (hp : C (aB 0 b) 3 = 0 ∨ C (aB 0 b) 3 = 1) (hf : ¬ z = 0 → ¬ C (aB 0 b) 3 = 1 → 1 ≤ C (aBe 0) (nv (C (aB 0 b) 4)) - sm (q_bl 0 (C (aB 0 b) 4) 1 C) B) : tn_c (t + 1) H M B N (f_berth b z C) := by
  obtain ⟨hh, e, c, h1, h2, e1, e2, e3, e4, e5⟩ := tc_taken h hb hp
  obtain ⟨hs, hk, ⟨d, d1, d2⟩, hg, hn⟩ := h
  obtain ⟨z1, z2, z3⟩ := sf_Z hs
  have hH := hs.1.2
  have hp3 : ¬ C (aB 0 b) 3 = 3 := by rcases hp with q | q <;> rw [q] <;> decide
  have hs2 := hs.2.2.2.2.1 b hb
  unfold f_berth
  obtain ⟨v, ev, hv⟩ : ∃ v : Int32, v = (if z = 0 then 0 else 1) ∧ (v = 0 ∨ v = 1) := ⟨_, rfl, by split <;> simp⟩
  rw [← ev]
  have hv3 : ¬ v = 3 := by rcases hv with q | q <;> rw [q] <;> decide
  have hv2 : ¬ v = 2 := by rcases hv with q | q <;> rw [q] <;> decide
  have ho : ∀ a, a ≠ aB 0 b → jj_u C (aB 0 b) 3 v a = C a := fun a e => jj_u_ne e
  have hH2 : tn_hu 0 (jj_u C (aB 0 b) 3 v) b := by
    refine ⟨fun q => ?_, fun _ => ?_⟩
    · rw [jj_u_eq] at q; exact absurd q hv3
    · rw [jj_u_nk (by decide)]; exact (hn.1 b hb).1.2 hp3
  refine ⟨sf_bo hs (by omega) (fun a e _ _ => ho a e) (fun _ => ?_), sk_bo hk ⟨z1, z2, z3⟩ hb (fun a e _ _ => ho a e) (jj_u_nk (by decide)) (fun q => ?_), ⟨d, by omega, by rw [ho _ (by simp only [aR, aB]; omega)]; exact d2⟩, tg_t (tg_B (k := b) hg (by omega) ho) (by omega) ht, fun q hq => ?_, fun q x1 x2 => fb_cg (ho _ (by simp only [aB]; omega)) (ho _ (by simp only [aBc, aB]; omega)) (hn.2.1 q x1 x2), fun q hq => ?_⟩
  · unfold sfB
    rw [jj_u_nk (by decide), jj_u_eq, jj_u_nk (by decide), jj_u_nk (by decide), jj_u_nk (by decide)]
    exact ⟨hs2.1, by rcases hv with q | q <;> rw [q] <;> simp, fun _ => hs2.2.2.1 hp3, fun q => absurd q hv2, hs2.2.2.2.2⟩
  · rw [jj_u_eq] at q
    exact absurd q hv2
  · by_cases x : q = b
    · subst x; exact ⟨hH2, ro_cg (jj_u_nk (by decide)) (ho _ (by simp only [aBc, aB]; omega)) (hn.1 q hq).2⟩
    · have xx := ho (aB 0 q) (by simp only [aB]; omega)
      exact ⟨hu_cg (by rw [xx]) (by rw [xx]) (hn.1 q hq).1, ro_cg (by rw [xx]) (ho _ (by simp only [aBc, aB]; omega)) (hn.1 q hq).2⟩
  · obtain ⟨x, x1, x2, x3⟩ := hn.2.2 q hq
    refine ⟨x, x1, by rw [ho _ (by simp only [aBe, aB]; omega)]; exact x2, ?_⟩
    have hup := tn_up (f := tn_q 0 q C) (g := tn_q 0 q (jj_u C (aB 0 b) 3 v)) (j := b) (n := B) hb (fun k _ hk => by unfold tn_q; rw [ho _ (by simp only [aB]; omega)])
    have h01 : tn_q 0 q (jj_u C (aB 0 b) 3 v) b ≤ tn_q 0 q C b ∨ (q = hh ∧ c < e ∧ tn_q 0 q C b = 0 ∧ tn_q 0 q (jj_u C (aB 0 b) 3 v) b ≤ 1) := by
      unfold tn_q
      rw [jj_u_eq, jj_u_nk (by decide)]
      by_cases c1 : v = 1 ∧ C (aB 0 b) 4 = nI q
      · rw [if_pos c1]
        by_cases c2 : C (aB 0 b) 3 = 1
        · rw [if_pos ⟨c2, c1.2⟩]
          exact Or.inl (Nat.le_refl _)
        · rw [if_neg (fun y => c2 y.1)]
          have c3 : ¬ z = 0 := fun y => by
            rw [if_pos y] at ev
            rw [ev] at c1
            exact absurd c1.1 (by decide)
          have hf2 := hf c3 c2
          rw [e4, h2, nv_nI (by omega), e2, nI_sb e3] at hf2
          have hlt : 1 ≤ e - c := (nI_leI (by omega) (by omega)).mp (show nI 1 ≤ nI (e - c) from hf2)
          refine Or.inr ⟨?_, by omega, rfl, Nat.le_refl _⟩
          exact jm_n (c1.2.symm.trans h2) (by omega) (by omega)
      · rw [if_neg c1]
        exact Or.inl (Nat.zero_le _)
    rcases h01 with y | ⟨y1, y2, y3, y4⟩
    · omega
    · subst y1
      have : x = e := jm_n (x2.symm.trans e2) (by omega) (by omega)
      omega
end TP
