/-! a day's coins -/
section DT
variable {H M B N t d : Nat} {C J X Y : jj_I}
def g_cs (M : Nat) (C : jj_I) : Int32 := sm (fun m => C (aM 0 m) 0) M
def g_ct (M : Nat) (C : jj_I) : Nat := tn_ts (fun m => nv (C (aM 0 m) 0)) M
theorem cs_t (hg : tn_g 0 t N C) (hM : M ≤ 5) : g_cs M C = nI (g_ct M C) := tn_sm (fun m hm => hg.2.2.1 m (by omega))
theorem cs_u {q : Nat} {v : Int32} (hq : q < M) : g_cs M (jj_u C (aM 0 q) 0 v) + C (aM 0 q) 0 = g_cs M C + v := by
  have h1 := sm_up (f := fun m => C (aM 0 m) 0) (g := fun m => jj_u C (aM 0 q) 0 v (aM 0 m) 0) hq (fun k hk hne => by rw [jj_u_ne (by simp only [aM]; omega)])
  rw [jj_u_eq] at h1
  exact h1
theorem cs_off (e : ∀ m, m < M → J (aM 0 m) = C (aM 0 m)) : g_cs M J = g_cs M C := sm_congr (fun m hm => by rw [e m hm])
theorem cs_mv {q a : Nat} {x : Int32} (hq : q < M) (ha : a < M) : g_cs M (jj_u (jj_u C (aM 0 q) 0 (C (aM 0 q) 0 - x)) (aM 0 a) 0 (jj_u C (aM 0 q) 0 (C (aM 0 q) 0 - x) (aM 0 a) 0 + x)) = g_cs M C := by
  have h1 := al_1 (cs_u (C := C) (v := C (aM 0 q) 0 - x) hq)
  have h2 := al_2 (cs_u (C := jj_u C (aM 0 q) 0 (C (aM 0 q) 0 - x)) (v := jj_u C (aM 0 q) 0 (C (aM 0 q) 0 - x) (aM 0 a) 0 + x) ha)
  exact h2.trans h1
def g_bn (C : jj_I) (b : Nat) : Nat := if C (aB 0 b) 3 = 1 then 1 else 0
/-- berth money -/
theorem py_c (hs : sf 0 H M B N C) (hk : sk 0 H M B N C) (hg : tn_g 0 t N C) (hb : tn_b 0 H B C) : ∀ k, k ≤ B → ((sf 0 H M B N (it (f_py 0) C k) ∧ sk 0 H M B N (it (f_py 0) C k)) ∧ tn_g 0 t N (it (f_py 0) C k) ∧ tn_b 0 H B (it (f_py 0) C k)) ∧ (∀ b, k ≤ b → b < B → it (f_py 0) C k (aB 0 b) = C (aB 0 b)) ∧ g_ct M (it (f_py 0) C k) ≤ g_ct M C ∧ g_ct M C ≤ g_ct M (it (f_py 0) C k) + tn_ts (g_bn C) k
  | 0, _ => ⟨⟨⟨hs, hk⟩, hg, hb⟩, fun _ _ _ => rfl, Nat.le_refl _, Nat.le_refl _⟩
  | k + 1, hk1 => by
    obtain ⟨⟨⟨h1, h2⟩, h3, h4⟩, h5, h6, h7⟩ := py_c hs hk hg hb k (by omega)
    have hM2 := hs.2.1.2
    have hB2 := hs.2.2.1.2
    have ck : k < B := by omega
    obtain ⟨o, ho, eo⟩ := (h2.2.1 k ck).2
    have row := h5 k (Nat.le_refl _) ck
    refine ⟨⟨⟨sf_py h1 ck, sk_py h1 h2 ck⟩, py_n h1 h3 h4 ck⟩, fun b q1 q2 => ?_, ?_⟩
    · exact (fr_py (by simp only [aB]; omega) (by rw [eo, nv_nI (by omega)]; simp only [aB, aM]; omega)).trans (h5 b (by omega) q2)
    · show g_ct M (f_py 0 k (it (f_py 0) C k)) ≤ g_ct M C ∧ g_ct M C ≤ g_ct M (f_py 0 k (it (f_py 0) C k)) + (tn_ts (g_bn C) k + g_bn C k)
      have h31 := h3.2.2.1
      have hC5 := fun m hm => (tg_C h3 (m := m) hm)
      generalize it (f_py 0) C k = y at *
      rw [py_eq eo (by omega), row]
      have ct_off : ∀ v s, g_ct M (jj_u y (aB 0 k) s v) = g_ct M y := fun v s => tn_cg (fun m hm => by rw [jj_u_ne (by simp only [aM, aB]; omega)])
      by_cases c : C (aB 0 k) 3 = 1
      · rw [if_pos c]
        have e1 : g_bn C k = 1 := if_pos c
        rw [e1]
        by_cases c2 : 0 < y (aM 0 o) 0
        · rw [if_pos c2]
          have eo2 := h31 o (by omega)
          have hb2 := hC5 o (by omega)
          have p1 : 1 ≤ nv (y (aM 0 o) 0) := by
            rcases Nat.eq_zero_or_pos (nv (y (aM 0 o) 0)) with z | z
            · rw [z] at eo2; rw [eo2] at c2; exact absurd c2 (by decide)
            · exact z
          have ev : nv (y (aM 0 o) 0 - 1) = nv (y (aM 0 o) 0) - 1 := by
            rw [eo2, jm_sub1 p1, nv_nI (by omega), nv_nI (by omega)]
          have hu := tn_up (f := fun m => nv (y (aM 0 m) 0)) (g := fun m => nv (jj_u y (aM 0 o) 0 (y (aM 0 o) 0 - 1) (aM 0 m) 0)) (j := o) (n := M) ho (fun k hk hne => by rw [jj_u_ne (by simp only [aM]; omega)])
          rw [jj_u_eq, ev] at hu
          have l1 : g_ct M (jj_u y (aM 0 o) 0 (y (aM 0 o) 0 - 1)) + nv (y (aM 0 o) 0) = g_ct M y + (nv (y (aM 0 o) 0) - 1) := hu
          omega
        · rw [if_neg c2, ct_off]
          omega
      · rw [if_neg c]
        have e1 : g_bn C k = 0 := if_neg c
        omega
theorem cs_pd (hs : sf 0 H M B N C) (hk : sk 0 H M B N C) (hg : tn_g 0 t N C) (hb : tn_b 0 H B C) : ∃ c c1 k, g_cs M C = nI c ∧ g_cs M (f_pd 0 H B N d C) = nI c1 ∧ sm (fun b => if C (aB 0 b) 3 = 1 then 1 else 0) B = nI k ∧ c1 ≤ c ∧ c ≤ c1 + k ∧ c ≤ 12800000 ∧ k ≤ 10 := by
  have hH2 := hs.1.2
  have hM2 := hs.2.1.2
  have hB2 := hs.2.2.1.2
  have hN2 := hs.2.2.2.1.2
  have frR : ∀ a, a ≠ aIc 0 → f_fr 0 H d C a = C a := fun a ha => fr_fr ha
  have g0 : tn_g 0 t N (f_fr 0 H d C) ∧ tn_b 0 H B (f_fr 0 H d C) := ⟨tg_at (a := aIc 0) hg (fun x hx => fr_fr hx) (by simp only [aIc, aPr]; omega) (fun m _ => by simp only [aIc, aM]; omega) (fun m _ => by simp only [aIc, aMt]; omega) (fun b _ => by simp only [aIc, aBc]; omega) (fun q _ => by simp only [aIc, aD]; omega),
    tb_cg hb (fun b _ => frR _ (by simp only [aB, aIc]; omega)) hB2 (fun b _ => frR _ (by simp only [aBc, aIc]; omega)) (frR _ (by simp only [aBe, aIc]; omega))⟩
  obtain ⟨⟨⟨p1, p2⟩, p3, p4⟩, -, p6, p7⟩ := py_c (sf_fr (d := d) hs) (sk_fr (d := d) hk) g0.1 g0.2 B (Nat.le_refl _)
  have eC : g_ct M (f_fr 0 H d C) = g_ct M C := tn_cg (fun m hm => by rw [frR _ (by simp only [aM, aIc]; omega)])
  have eB : tn_ts (g_bn (f_fr 0 H d C)) B = tn_ts (g_bn C) B := tn_cg (fun b hb => by unfold g_bn; rw [frR _ (by simp only [aB, aIc]; omega)])
  rw [eC] at p6 p7
  rw [eB] at p7
  have cW := cs_t (M := M) p3 hM2
  generalize hW : it (f_py 0) (f_fr 0 H d C) B = W at *
  have a2 := it_in (f := fun k M => f_bi 0 k H (f_go 0 k M)) (S := fun J => (sf 0 H M B N J ∧ sk 0 H M B N J) ∧ g_cs M J = g_cs M W) ⟨⟨p1, p2⟩, rfl⟩ (N := B) (fun j y h hy => ⟨⟨sf_gb hy.1.1 h, sk_gb hy.1.1 hy.1.2 h⟩, (cs_off (fun m hm => fr_gb (by simp only [aM, aB]; omega) (by simp only [aM, aBc]; omega))).trans hy.2⟩) B (Nat.le_refl _)
  have a3 := it_in (f := f_se 0) (S := fun J => (sf 0 H M B N J ∧ sk 0 H M B N J) ∧ g_cs M J = g_cs M W) a2 (N := N) (fun j y h hy => ⟨⟨sf_se hy.1.1 h, sk_se hy.1.1 hy.1.2 h⟩, by
    obtain ⟨⟨a, ha, e0⟩, ⟨q, hq, e1⟩⟩ := hy.1.2.2.2 j h
    obtain ⟨-, -, ⟨x, hx, e2⟩, ⟨g, hg, e3⟩⟩ := hy.1.1.2.2.2.2.2 j h
    refine Eq.trans ?_ hy.2
    rw [se_eq e0 e1 e2 e3 (by omega) (by omega) (by omega) hg]
    split
    · split
      · split
        · exact cs_off (fun m hm => jj_u_ne (by simp only [aM, aD]; omega))
        · exact (cs_off (fun m hm => jj_u_ne (by simp only [aM, aD]; omega))).trans (cs_mv hq ha)
      · refine cs_off (fun m hm => ?_)
        rw [jj_u_ne (by simp only [aM, aD]; omega)]
        exact hd_off (by simp only [aM, aMt]; omega) (by simp only [aM, aMt]; omega)
    · rfl⟩) N (Nat.le_refl _)
  refine ⟨g_ct M C, g_ct M W, tn_ts (g_bn C) B, cs_t hg hM2, ?_, ?_, p6, p7, ?_, ?_⟩
  · rw [← cW, ← a3.2]
    exact cs_off (fun m hm => by unfold f_pd; rw [jj_u_ne (by simp only [aM, aR]; omega), hW])
  · refine tn_sm (fun b hb => ?_)
    unfold g_bn
    by_cases c : C (aB 0 b) 3 = 1
    · rw [if_pos c, if_pos c]; rfl
    · rw [if_neg c, if_neg c]; rfl
  · have := tn_bnd (f := fun m => nv (C (aM 0 m) 0)) (c := 2560000) (n := M) (fun m hm => by have := tg_C hg (m := m) (by omega); omega)
    show tn_ts (fun m => nv (C (aM 0 m) 0)) M ≤ _
    omega
  · have := tn_bnd (f := g_bn C) (c := 1) (n := B) (fun b _ => by unfold g_bn; split <;> omega)
    omega
theorem i_sub_le {a b c : Nat} (h : a ≤ c + b) (ha : a < 1000000000) (hb : b < 1000000000) (hc : c < 1000000000) : nI a - nI b ≤ nI c := by
  rw [Int32.le_iff_toInt_le, Int32.toInt_sub, nI_toInt (by omega), nI_toInt (by omega), nI_toInt (by omega)]
  rw [Int.bmod_eq_of_le (by omega) (by omega)]
  omega
end DT
