/-! a boat's day: the class's and the law's own -/
theorem i32_11 {x : Int32} : x < 11 ↔ x ≤ 10 := by
  rw [Int32.lt_iff_toInt_lt, Int32.le_iff_toInt_le, show (11 : Int32).toInt = 11 from rfl, show (10 : Int32).toInt = 10 from rfl]
  omega
def gd (C : jj_I) (b : Nat) (s t l g : Int32) (J : jj_I) : Prop := J (aB 0 b) 3 = s ∧ J (aB 0 b) 4 = t ∧ J (aB 0 b) 7 = l ∧ (s = 2 → g = J (aB 0 b) 5 + 1) ∧ (∀ k, k = 0 ∨ k = 1 ∨ k = 2 ∨ k = 6 → J (aB 0 b) k = C (aB 0 b) k) ∧ ∀ a, a ≠ aB 0 b → J a = C a
section GD
variable {A : Nat → Nat} {H M B N n b : Nat} {K : jj_K} {P : jj_P} {C I : jj_I}
theorem gd_id {g : Int32} (h : C (aB 0 b) 3 = 2 → g = C (aB 0 b) 5 + 1) : gd C b (C (aB 0 b) 3) (C (aB 0 b) 4) (C (aB 0 b) 7) g C := ⟨rfl, rfl, rfl, h, fun _ _ => rfl, fun _ _ => rfl⟩
theorem gd_so {s v4 v5 v7 g : Int32} (hg : s = 2 → g = v5 + 1) : gd C b s v4 v7 g (jj_u (jj_u (jj_u (jj_u (jj_u C (aB 0 b) 3 2) (aB 0 b) 5 v5) (aB 0 b) 4 v4) (aB 0 b) 7 v7) (aB 0 b) 3 s) :=
  ⟨by simp [jj_u], by simp [jj_u], by simp [jj_u], fun e => by rw [hg e]; simp [jj_u], fun k hk => by rcases hk with rfl | rfl | rfl | rfl <;> simp [jj_u], fun a ha => by rw [jj_u_ne ha, jj_u_ne ha, jj_u_ne ha, jj_u_ne ha, jj_u_ne ha]⟩
theorem gd_so2 {v4 v5 v7 g : Int32} (hg : g = v5 + 1) : gd C b 2 v4 v7 g (jj_u (jj_u (jj_u (jj_u C (aB 0 b) 3 2) (aB 0 b) 5 v5) (aB 0 b) 4 v4) (aB 0 b) 7 v7) :=
  ⟨by simp [jj_u], by simp [jj_u], by simp [jj_u], fun e => by rw [hg]; simp [jj_u], fun k hk => by rcases hk with rfl | rfl | rfl | rfl <;> simp [jj_u], fun a ha => by rw [jj_u_ne ha, jj_u_ne ha, jj_u_ne ha, jj_u_ne ha]⟩
theorem g2_no (J : jj_I) (h : ¬ (J (aB 0 b) 3 = 2 ∧ ¬ 0 < J (aB 0 b) 7)) : f_g2 0 b J = J := if_neg h
theorem q_ol_1 {J : jj_I} {l : Nat} : q_ol 0 J l = 0 ↔ ¬ J (aIc 0) l ≤ 10 := by
  unfold q_ol
  by_cases h : J (aIc 0) l ≤ 10
  · rw [if_pos h]; exact ⟨fun e => absurd e (by decide), fun e => absurd h e⟩
  · rw [if_neg h]; exact ⟨fun _ => h, fun _ => rfl⟩
theorem nI_0lt {t : Nat} (ht : t < 1000) : ¬ 0 < nI t ↔ t = 0 := by
  rw [← nI_0, nI_ltI (by omega) (by omega)]
  omega
theorem nI_z {t : Nat} (ht : t < 1000) : nI t = 0 ↔ t = 0 := by
  rw [← nI_0, nI_eq (by omega) (by omega)]
theorem gd_go (hm : ms A H M B N C I) (hf : sf 0 H M B N C) (hk : sk 0 H M B N C) (hb : b < B) (h3 : ¬ C (aB 0 b) 3 = 3) : ∃ s t l g, s_g A b I = (s, t, l, g) ∧ gd C b s t l g (f_go 0 b C) := by
  have hH2 := hf.1.2
  have hB2 := hf.2.2.1.2
  obtain ⟨-, hp, h4, hl5, ⟨g, hg6, eg⟩⟩ := hf.2.2.2.2.1 b hb
  obtain ⟨h0, hh0, eh⟩ := h4 h3
  have hG := (hk.2.1 b hb).1
  obtain ⟨q0, q1, q2, q3, q4, q5, q6, q7, q8⟩ := hm.2.2.2.2.2.2.1 b hb
  have hL := hk.1
  have dI := hm.2.2.1
  have cI := hm.2.2.2.1
  unfold s_g
  rw [q3, q4, q5, q6]
  by_cases h01 : C (aB 0 b) 3 = 0 ∨ C (aB 0 b) 3 = 1
  · have hn2 := jm_n2 h01
    have hlt2 : C (aB 0 b) 3 < 2 := by rcases h01 with e | e <;> rw [e] <;> decide
    have hid : ∀ J : jj_I, f_g1 0 b C = C → f_go 0 b C = C := fun _ e => by unfold f_go; rw [e]; exact g2_no C (fun q => hn2 q.1)
    have hout : ∀ g7, s_g2 A I (C (aB 0 b) 3, C (aB 0 b) 4, C (aB 0 b) 7, g7) = (C (aB 0 b) 3, C (aB 0 b) 4, C (aB 0 b) 7, g7) := fun g7 => s_g2_n (fun q => hn2 q.1)
    by_cases e : C (aB 0 b) 4 = C (aB 0 b) 6
    · refine ⟨C (aB 0 b) 3, C (aB 0 b) 4, C (aB 0 b) 7, I (A (20 + b)) 7, ?_, ?_⟩
      · rw [s_g1_n (fun q => q.2.1 e.symm), hout]
      · rw [hid C (by unfold f_g1; rw [if_neg (fun q => q.2 e), if_neg (fun q => hn2 q.1)])]
        exact gd_id (fun q => absurd q hn2)
    · by_cases hlt : C (aB 0 b) 4 < C (aB 0 b) 6
      · have hl0 : h0 < g := jm_dn (by rw [← eg, ← eh]; exact Int32.not_le.mpr hlt) (by omega) (by omega)
        by_cases hq : q_ol 0 C h0 = 0
        · refine ⟨C (aB 0 b) 3, C (aB 0 b) 4, C (aB 0 b) 7, I (A (20 + b)) 7, ?_, ?_⟩
          · rw [s_g1_n (fun q => by have w := q.2.2; rw [if_pos hlt, eh, nI_1, nv_nI (by omega), cI h0 (by omega), i32_11] at w; exact q_ol_1.mp hq w), hout]
          · rw [hid C (by rw [g1_so h01 e]; exact so_cl (h := h0) (by rw [if_pos hlt, eh, nv_nI (by omega)]) hq)]
            exact gd_id (fun q => absurd q hn2)
        · obtain ⟨t, t1, t2, et⟩ := hL h0 (by omega)
          have ho : I (A 3) (h0 + 1) < 11 := by rw [cI h0 (by omega), i32_11]; exact Decidable.byContradiction (fun w => hq (q_ol_1.mpr w))
          rw [s_g1_dn hlt2 eh (by omega) hlt ho, dI h0 (by omega), et]
          unfold f_go
          rw [g1_so h01 e, so_dn eh (by omega) hlt hq et t1]
          by_cases t0 : t - 1 = 0
          · refine ⟨0, nI (h0 + 1), nI (t - 1), nI (h0 + 1), ?_, ?_⟩
            · rw [s_g2_0 rfl rfl (by omega) ho (by rw [jm_sub1 t1, t0]; rfl), jm_sub1 t1]
            · rw [g2_2 (by simp [jj_u]) (by rw [jj_u_eq, t0]; decide)]
              exact gd_so (fun w => absurd w (by decide))
          · refine ⟨2, nI (h0 + 1), nI (t - 1), nI (h0 + 1), ?_, ?_⟩
            · rw [s_g2_1 rfl rfl (by omega) ho (by rw [jm_sub1 t1, nI_z (by omega)]; exact t0), jm_sub1 t1]
            · rw [g2_no _ (fun w => by have w2 := w.2; rw [jj_u_eq, nI_0lt (by omega)] at w2; exact t0 w2)]
              exact gd_so2 (nI_1 h0).symm
      · have hl0 : g < h0 := jm_up (by rw [← eg, ← eh]; exact Int32.not_lt.mp hlt) (by rw [← eg, ← eh]; exact e) (by omega) (by omega)
        obtain ⟨m, rfl⟩ : ∃ m, h0 = m + 1 := ⟨h0 - 1, by omega⟩
        by_cases hq : q_ol 0 C m = 0
        · refine ⟨C (aB 0 b) 3, C (aB 0 b) 4, C (aB 0 b) 7, I (A (20 + b)) 7, ?_, ?_⟩
          · rw [s_g1_n (fun q => by have w := q.2.2; rw [if_neg hlt, eh, nv_nI (by omega), cI m (by omega), i32_11] at w; exact q_ol_1.mp hq w), hout]
          · rw [hid C (by rw [g1_so h01 e]; exact so_cl (h := m) (by rw [if_neg hlt, eh, nI_pred, nv_nI (by omega)]) hq)]
            exact gd_id (fun q => absurd q hn2)
        · obtain ⟨t, t1, t2, et⟩ := hL m (by omega)
          have ho : I (A 3) (m + 1) < 11 := by rw [cI m (by omega), i32_11]; exact Decidable.byContradiction (fun w => hq (q_ol_1.mpr w))
          have e2 : 2 * nI t - 1 = nI (2 * t - 1) := by rw [show (2 : Int32) = nI 2 from rfl, pk_mul, jm_sub1 (by omega)]
          rw [s_g1_up hlt2 eh (by omega) hlt (fun w => e w.symm) ho, dI m (by omega), et, jm_m1 (by omega)]
          unfold f_go
          rw [g1_so h01 e, so_up eh (by omega) hlt hq et t1]
          refine ⟨2, nI (m + 1 - 1), nI (2 * t - 1), nI (m + 1), ?_, ?_⟩
          · rw [s_g2_1 rfl rfl (by omega) ho (by rw [e2, nI_z (by omega)]; omega), e2]
          · rw [g2_no _ (fun w => by have w2 := w.2; rw [jj_u_eq, nI_0lt (by omega)] at w2; omega)]
            exact gd_so2 (nI_1 m).symm
  · have h2 : C (aB 0 b) 3 = 2 := by
      rcases hp with e | e | e | e
      · exact absurd (Or.inl e) h01
      · exact absurd (Or.inr e) h01
      · exact e
      · exact absurd e h3
    obtain ⟨l, hl1, el⟩ := hl5 h2
    obtain ⟨t, t1, t2, et⟩ := hG h2
    have e7 : I (A (20 + b)) 7 = nI (l + 1) := by rw [q7 h2, el, nI_1]
    have hs1 : s_g1 A I (C (aB 0 b) 6) (C (aB 0 b) 3) (C (aB 0 b) 4) (C (aB 0 b) 7) (I (A (20 + b)) 7) = (C (aB 0 b) 3, C (aB 0 b) 4, C (aB 0 b) 7, I (A (20 + b)) 7) := s_g1_n (fun q => by have w := q.1; rw [h2] at w; exact absurd w (by decide))
    rw [hs1, e7]
    unfold f_go
    rw [g1_on h2, el, nv_nI (by omega)]
    by_cases hq : q_ol 0 C l = 0
    · rw [if_pos hq, g2_no C (fun w => by have w2 := w.2; rw [et, nI_0lt (by omega)] at w2; omega), s_g2_n (fun q => by have w := q.2; rw [nv_nI (by omega), cI l (by omega), i32_11] at w; exact q_ol_1.mp hq w)]
      exact ⟨_, _, _, _, rfl, gd_id (fun _ => by rw [el, nI_1])⟩
    · rw [if_neg hq]
      have ho : I (A 3) (l + 1) < 11 := by rw [cI l (by omega), i32_11]; exact Decidable.byContradiction (fun w => hq (q_ol_1.mpr w))
      by_cases t0 : t - 1 = 0
      · rw [g2_2 (by rw [jj_u_nk (by decide)]; exact h2) (by rw [jj_u_eq, et, jm_sub1 t1, t0]; decide), s_g2_0 h2 rfl (by omega) ho (by rw [et, jm_sub1 t1, t0]; rfl)]
        refine ⟨_, _, _, _, rfl, ?_⟩
        exact ⟨by simp [jj_u], by simp [jj_u], by simp [jj_u], fun w => absurd w (by decide), fun k hk => by rcases hk with rfl | rfl | rfl | rfl <;> simp [jj_u], fun a ha => by rw [jj_u_ne ha, jj_u_ne ha]⟩
      · rw [g2_no _ (fun w => by have w2 := w.2; rw [jj_u_eq, et, jm_sub1 t1, nI_0lt (by omega)] at w2; exact t0 w2), s_g2_1 h2 rfl (by omega) ho (by rw [et, jm_sub1 t1, nI_z (by omega)]; exact t0)]
        refine ⟨_, _, _, _, rfl, ?_⟩
        exact ⟨by simp [jj_u], by simp [jj_u], by simp [jj_u], fun w => by rw [jj_u_nk (by decide), el, nI_1], fun k hk => by rcases hk with rfl | rfl | rfl | rfl <;> simp [jj_u], fun a ha => by rw [jj_u_ne ha]⟩
end GD
section GB
variable {A : Nat → Nat} {H M B N n b : Nat} {K : jj_K} {P : jj_P} {C I : jj_I}
/-- caught by ice: the class's words -/
def cB (H b : Nat) (J : jj_I) : Prop := (J (aB 0 b) 3 = 2 ∧ ¬ J (aIc 0) (nv (J (aB 0 b) 5)) ≤ 20) ∨ (J (aB 0 b) 3 = 0 ∧ ¬ f_ia 0 (nv (J (aB 0 b) 4)) H J ≤ 20)
theorem sbi_y {J : jj_I} (h : cB H b J) : f_bi 0 b H J = f_lh 0 b J := by
  unfold f_bi
  by_cases h1 : J (aB 0 b) 3 = 2 ∧ ¬ J (aIc 0) (nv (J (aB 0 b) 5)) ≤ 20
  · rw [if_pos h1]
  · rw [if_neg h1]
    exact if_pos (h.resolve_left h1)
theorem sbi_n {J : jj_I} (h : ¬ cB H b J) : f_bi 0 b H J = J := by
  unfold f_bi
  rw [if_neg (fun q => h (Or.inl q)), if_neg (fun q => h (Or.inr q))]
theorem s_ar_ia {h : Nat} (hm : ms A H M B N C I) (hh : h < H) : s_ar A H h I = f_ia 0 h H C := by
  have cI := hm.2.2.2.1
  unfold s_ar f_ia
  by_cases h1 : H < 2
  · rw [if_pos h1, if_pos (by omega)]
  · rw [if_neg h1, if_neg (show ¬ H ≤ 1 by omega)]
    by_cases h2 : h + 1 < H
    · rw [if_pos h2, cI h h2]
      by_cases h3 : h < H - 2
      · rw [if_pos h3]
      · rw [if_neg h3, show H - 2 = h by omega]
    · rw [if_neg h2]
      obtain ⟨m, rfl⟩ : ∃ m, h = m + 1 := ⟨h - 1, by omega⟩
      rw [cI m (by omega), if_neg (by omega), show H - 2 = m by omega]
theorem f_ia_cg {h : Nat} {J : jj_I} (e : J (aIc 0) = C (aIc 0)) : f_ia 0 h H J = f_ia 0 h H C := by
  unfold f_ia
  rw [e]
theorem ca_iff {s t l g : Int32} {J : jj_I} (hm : ms A H M B N C I) (hg : gd C b s t l g J) (hf : sfB 0 H J b) (hH : H ≤ 8) (h3 : ¬ s = 3) : s_ca A H I s t g ↔ cB H b J := by
  obtain ⟨g3, g4, g7, g5, -, go⟩ := hg
  obtain ⟨-, -, f4, f5, -⟩ := hf
  have eIc : J (aIc 0) = C (aIc 0) := go _ (by simp only [aIc, aB]; omega)
  have cI := hm.2.2.2.1
  unfold s_ca cB
  rw [g3, g4]
  refine or_congr (and_congr_right fun e => ?_) (and_congr_right fun e => ?_)
  · obtain ⟨k, hk, ek⟩ := f5 (by rw [g3]; exact e)
    rw [g5 e, ek, nI_1, nv_nI (by omega), nv_nI (by omega), cI k hk, eIc]
    exact Int32.not_le.symm
  · obtain ⟨k, hk, ek⟩ := f4 (by rw [g3, e]; decide)
    rw [g4] at ek
    rw [ek, nv_nI (by omega), s_ar_ia hm hk, f_ia_cg eIc]
    exact Int32.not_le.symm
theorem s_g_3 {A : Nat → Nat} {b : Nat} {I : jj_I} (h : ¬ I (A (20 + b)) 3 = 3) : ¬ (s_g A b I).1 = 3 := by
  have h1 : ∀ go s t l g, ¬ s = 3 → ¬ (s_g1 A I go s t l g).1 = 3 := fun go s t l g h => by
    unfold s_g1
    by_cases hc : s < 2 ∧ ¬ go = t ∧ I (A 3) (nv (if t < go then t + 1 else t)) < 11
    · rw [if_pos hc]
      exact (by decide : ¬ (2 : Int32) = 3)
    · rw [if_neg hc]
      exact h
  have h2 : ∀ q : Int32 × Int32 × Int32 × Int32, ¬ q.1 = 3 → ¬ (s_g2 A I q).1 = 3 := fun q h => by
    unfold s_g2
    split
    · try dsimp only
      split
      · decide
      · exact h
    · exact h
  exact h2 _ (h1 _ _ _ _ _ h)
/-- the goods of a boat are others, made anew -/
theorem sy_goods (hs : sy A H M B N n K P) (hb : b < B) : sy (fun u => if u = 40 + b then n else A u) H M B N (n + 1) (jj_uK K n (10, 4)) (jj_u P (A (20 + b)) 8 (some n)) := by
  obtain ⟨n1, n2, n3, n4⟩ := id hs.1
  refine sy_new hs hs.1 (by omega) (fun t => t == 40 + b) (fun t h ht => ?_) (fun t h ht => ?_) (fun t u h g e => ?_) (fun t kd h e => ?_) (fun a ha => by unfold jj_uK; rw [if_neg (by omega)]) (fun t k u e => ?_)
  · have h5 : t ≠ 40 + b := by simpa using h
    try dsimp only
    exact ⟨if_neg h5, rfl⟩
  · have h5 : t = 40 + b := by simpa using h
    try dsimp only
    rw [if_pos h5]
    omega
  · have h5 : t = 40 + b := by simpa using h
    have g5 : u = 40 + b := by simpa using g
    omega
  · have h5 : t = 40 + b := by simpa using h
    subst h5
    try dsimp only
    rw [sy_eG hs.1 hb] at e
    rw [if_pos rfl]
    unfold jj_uK
    rw [if_pos rfl]
    exact e
  · try dsimp only
    obtain ⟨lt2, lu2⟩ := sy_live hs.1 e
    have h4 : t ≠ 40 + b := fun c => by
      subst c
      unfold sy_P at e
      rw [if_neg (by omega), if_neg (by omega), if_neg (by omega), if_neg (by omega), if_neg (by omega), if_neg (by omega), if_neg (by omega)] at e
      cases e
    rw [if_neg h4]
    have ll := sy_lt hs lt2
    have old := hs.2.2.1 t k u e
    by_cases c0 : t = 20 + b
    · subst c0
      have e9 : k = 8 ∧ u = 40 + b := by
        unfold sy_P at e
        rw [if_neg (by omega), if_neg (by omega), if_neg (by omega), if_neg (by omega), if_neg (by omega), if_pos (by omega)] at e
        split at e
        · cases e; exact ⟨by assumption, by omega⟩
        · cases e
      obtain ⟨rfl, rfl⟩ := e9
      rw [if_pos rfl, jj_u_eq]
    · rw [jj_u_ne (fun c => c0 (hs.2.2.2 t (20 + b) lt2 (sv_B hs.1 hb) c)), old]
      have hu : u ≠ 40 + b := fun c => by
        subst c
        unfold sy_P at e
        repeat' split at e
        all_goals first | (cases e; done) | (cases e; omega) | (have := Option.some.inj e; omega)
      rw [if_neg hu]
/-- what the river's own doings leave alone: all cells that are not its own -/
def fw (A : Nat → Nat) (H M B N n : Nat) (K : jj_K) (I : jj_I) (P : jj_P) (A1 : Nat → Nat) (n1 : Nat) (K1 : jj_K) (I1 : jj_I) (P1 : jj_P) : Prop :=
  n ≤ n1 ∧ (∀ a, a < n → K1 a = K a) ∧ (∀ a, a < n → (∀ t, sy_K H M B N t ≠ none → A t ≠ a) → I1 a = I a ∧ P1 a = P a) ∧ (∀ t, sy_K H M B N t ≠ none → A1 t = A t ∨ n ≤ A1 t)
theorem fw_refl {A : Nat → Nat} : fw A H M B N n K I P A n K I P := ⟨Nat.le_refl _, fun _ _ => rfl, fun _ _ _ => ⟨rfl, rfl⟩, fun _ _ => Or.inl rfl⟩
theorem fw_tr {A A1 A2 : Nat → Nat} {n1 n2 : Nat} {K1 K2 : jj_K} {I1 I2 : jj_I} {P1 P2 : jj_P} (h : fw A H M B N n K I P A1 n1 K1 I1 P1) (g : fw A1 H M B N n1 K1 I1 P1 A2 n2 K2 I2 P2) : fw A H M B N n K I P A2 n2 K2 I2 P2 := by
  obtain ⟨a1, a2, a3, a4⟩ := h
  obtain ⟨b1, b2, b3, b4⟩ := g
  refine ⟨Nat.le_trans a1 b1, fun a ha => (b2 a (by omega)).trans (a2 a ha), fun a ha ht => ?_, fun t ht => ?_⟩
  · have h3 := b3 a (by omega) (fun t htl e => by
      rcases a4 t htl with q | q
      · exact ht t htl (q.symm.trans e)
      · omega)
    exact ⟨h3.1.trans (a3 a ha ht).1, h3.2.trans (a3 a ha ht).2⟩
  · rcases b4 t ht with q | q
    · rw [q]; exact a4 t ht
    · exact Or.inr (by omega)
theorem fw_u {A : Nat → Nat} (t : Nat) (ht : sy_K H M B N t ≠ none) {k : Nat} {v : Int32} : fw A H M B N n K I P A n K (jj_u I (A t) k v) P :=
  ⟨Nat.le_refl _, fun _ _ => rfl, fun a _ h => ⟨jj_u_ne (fun e => h t ht e.symm), rfl⟩, fun _ _ => Or.inl rfl⟩
def gA (A A1 : Nat → Nat) : Prop := ∀ t, t < 40 ∨ 60 ≤ t → A1 t = A t
theorem ms_sail {n1 : Nat} {K1 : jj_K} {I1 : jj_I} {P1 : jj_P} (hs : sy A H M B N n K P) (hf : sf 0 H M B N C) (hk : sk 0 H M B N C) (hm : ms A H M B N C I) (hb : b < B) (h3 : ¬ C (aB 0 b) 3 = 3) (hR : sl_R A H b n K I P n1 K1 I1 P1) :
    ∃ A1, sy A1 H M B N n1 K1 P1 ∧ ms A1 H M B N (f_bi 0 b H (f_go 0 b C)) I1 ∧ fw A H M B N n K I P A1 n1 K1 I1 P1 ∧ n1 ≤ n + 1 ∧ gA A A1 := by
  obtain ⟨s, t, l, g, hq, hR⟩ := hR
  obtain ⟨s', t', l', g', hq', hgd⟩ := gd_go (A := A) hm hf hk hb h3
  cases hq.symm.trans hq'
  have hn := hs.1
  obtain ⟨n1', n2', n3', n4'⟩ := id hn
  have hfg := sf_go hf hb
  have hs3 : ¬ s = 3 := fun e => by
    have h := (s_g_3 (A := A) (b := b) (I := I) (by rw [(hm.2.2.2.2.2.2.1 b hb).2.2.2.1]; exact h3))
    rw [hq] at h
    exact h e
  have hca := ca_iff hm hgd (hfg.2.2.2.2.1 b hb) hf.1.2 hs3
  obtain ⟨q0, q1, q2, q3, q4, q5, q6, q7, q8⟩ := hm.2.2.2.2.2.2.1 b hb
  obtain ⟨g3, g4, g7, g5, gk, go⟩ := hgd
  have nx : ∀ u, sy_K H M B N u ≠ none → u ≠ 20 + b → A u ≠ A (20 + b) := fun u hu hne e => hne (hs.2.2.2 u (20 + b) hu (sv_B hn hb) e)
  have gC : ∀ a, a < 150 → a ≠ aB 0 b → a ≠ aBc 0 b → f_go 0 b C a = C a := fun a _ h _ => go a h
  have eG : f_go 0 b C (aBc 0 b) = C (aBc 0 b) := go _ (by simp only [aBc, aB]; omega)
  rcases hR with ⟨c, rfl, rfl, rfl, rfl⟩ | ⟨c, c1, rfl, rfl, rfl, rfl⟩ | ⟨c, c1, rfl, rfl, rfl, rfl⟩
  · rw [sbi_n (fun w => c (hca.mpr w))]
    refine ⟨A, hs, ms_b1 hn hm hb (fun u hu h1 _ => sb_ne (nx u hu h1)) gC ?_, ⟨Nat.le_refl _, fun _ _ => rfl, fun a _ h => ⟨sb_ne (fun e => h _ (sv_B hn hb) e.symm), rfl⟩, fun _ _ => Or.inl rfl⟩, Nat.le_succ _, fun _ _ => rfl⟩
    refine ⟨by rw [sb_r0, q0, gk 0 (by simp)], by rw [sb_r1, q1, gk 1 (by simp)], by rw [sb_r2, q2, gk 2 (by simp)], by rw [sb_r3, g3], by rw [sb_r4, g4], by rw [sb_r5, q5, gk 6 (by simp)], by rw [sb_r6, g7], fun e => by rw [sb_r7]; exact g5 (by rw [← g3]; exact e), fun k hk => by rw [sb_ne (nx _ (sv_G hn hb) (by omega)), eG]; exact q8 k hk⟩
  · rw [sbi_y (hca.mp c)]
    have e1 : f_lh 0 b (f_go 0 b C) = jj_u (f_go 0 b C) (aB 0 b) 1 (f_go 0 b C (aB 0 b) 1 - 1) := by
      unfold f_lh
      try dsimp only
      rw [if_pos (by rw [jj_u_eq, gk 1 (by simp), ← q1]; exact c1)]
    rw [e1]
    refine ⟨A, hs, ms_b1 hn hm hb (fun u hu h1 _ => sb_ne (nx u hu h1)) (fun a h1 h2 h4 => (jj_u_ne h2).trans (gC a h1 h2 h4)) ?_, ⟨Nat.le_refl _, fun _ _ => rfl, fun a _ h => ⟨sb_ne (fun e => h _ (sv_B hn hb) e.symm), rfl⟩, fun _ _ => Or.inl rfl⟩, Nat.le_succ _, fun _ _ => rfl⟩
    refine ⟨by rw [sb_r0, q0, jj_u_nk (by decide), gk 0 (by simp)], by rw [sb_r1, q1, jj_u_eq, gk 1 (by simp)], by rw [sb_r2, q2, jj_u_nk (by decide), gk 2 (by simp)], by rw [sb_r3, jj_u_nk (by decide), g3], by rw [sb_r4, jj_u_nk (by decide), g4], by rw [sb_r5, q5, jj_u_nk (by decide), gk 6 (by simp)], by rw [sb_r6, jj_u_nk (by decide), g7], fun e => ?_, fun k hk => ?_⟩
    · rw [jj_u_nk (by decide)] at e ⊢
      rw [sb_r7]
      exact g5 (by rw [← g3]; exact e)
    · rw [sb_ne (nx _ (sv_G hn hb) (by omega)), jj_u_ne (by simp only [aB, aBc]; omega), eG]
      exact q8 k hk
  · rw [sbi_y (hca.mp c)]
    have hne : aB 0 b ≠ aBc 0 b := by simp only [aB, aBc]; omega
    have e1 : f_lh 0 b (f_go 0 b C) = it (fun g M => jj_u M (aBc 0 b) g 0) (jj_u (jj_u (jj_u (jj_u (f_go 0 b C) (aB 0 b) 1 (f_go 0 b C (aB 0 b) 1 - 1)) (aB 0 b) 3 3) (aB 0 b) 4 (-1)) (aB 0 b) 7 0) 4 := by
      unfold f_lh
      try dsimp only
      rw [if_neg (by rw [jj_u_eq, gk 1 (by simp), ← q1]; exact c1)]
    have an : ∀ u, sy_K H M B N u ≠ none → A u ≠ n := fun u hu e => by
      cases h : sy_K H M B N u with
      | none => exact hu h
      | some kd => have := (hs.2.1 u kd h).1; omega
    rw [e1]
    refine ⟨_, sy_goods hs hb, ms_b1 hn hm hb (fun u hu h1 h2 => ?_) (fun a h1 h2 h4 => ?_) ?_, ⟨Nat.le_succ _, fun a ha => by unfold jj_uK; rw [if_neg (by omega)], fun a ha h => ⟨?_, jj_u_ne (fun e => h _ (sv_B hn hb) e.symm)⟩, fun u hu => ?_⟩, Nat.le_refl _, fun u hu => if_neg (by omega)⟩
    · try dsimp only
      rw [if_neg h2, jj_uR_ne (an u hu), sb_ne (nx u hu h1)]
    · rw [it_off h4, jj_u_ne h2, jj_u_ne h2, jj_u_ne h2, jj_u_ne h2]
      exact gC a h1 h2 h4
    · unfold msB
      try dsimp only
      rw [if_neg (show ¬ 20 + b = 40 + b by omega), if_pos rfl, jj_uR_ne (an _ (sv_B hn hb)), it_off hne]
      refine ⟨by rw [sb_r0, q0, jj_u_nk (by decide), jj_u_nk (by decide), jj_u_nk (by decide), jj_u_nk (by decide), gk 0 (by simp)], by rw [sb_r1, q1, jj_u_nk (by decide), jj_u_nk (by decide), jj_u_nk (by decide), jj_u_eq, gk 1 (by simp)], by rw [sb_r2, q2, jj_u_nk (by decide), jj_u_nk (by decide), jj_u_nk (by decide), jj_u_nk (by decide), gk 2 (by simp)], by rw [sb_r3, jj_u_nk (by decide), jj_u_nk (by decide), jj_u_eq], by rw [sb_r4, jj_u_nk (by decide), jj_u_eq], by rw [sb_r5, q5, jj_u_nk (by decide), jj_u_nk (by decide), jj_u_nk (by decide), jj_u_nk (by decide), gk 6 (by simp)], by rw [sb_r6, jj_u_eq], fun e => ?_, fun k hk => ?_⟩
      · rw [jj_u_nk (by decide), jj_u_nk (by decide), jj_u_eq] at e
        exact absurd e (by decide)
      · rw [jj_uR_eq]
        rcases (show k = 0 ∨ k = 1 ∨ k = 2 ∨ k = 3 by omega) with rfl | rfl | rfl | rfl <;> simp [it, jj_u]
    · rw [jj_uR_ne (by omega)]
      exact sb_ne (fun e => h _ (sv_B hn hb) e.symm)
    · try dsimp only
      by_cases c9 : u = 40 + b
      · rw [if_pos c9]; exact Or.inr (Nat.le_refl _)
      · rw [if_neg c9]; exact Or.inl rfl
end GB
