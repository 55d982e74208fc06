/-! each call's keeping of it: load, mend, lending, days; what mean and the looks ahead want -/
section TQ
variable {w t H M B N : Nat} {C J : jj_I}
theorem nI_neg {y : Int32} (h1 : -60 ≤ y) (h2 : ¬ 0 ≤ y) : ∃ j, 1 ≤ j ∧ j ≤ 60 ∧ 0 - y = nI j ∧ y = 0 - nI j := by
  have e : ((0 : Int32) - y).toInt = - y.toInt := by
    rw [Int32.le_iff_toInt_le] at h1 h2
    have z0 : (0 : Int32).toInt = 0 := rfl
    have z1 : (-60 : Int32).toInt = -60 := rfl
    rw [z0] at h2
    rw [z1] at h1
    rw [Int32.toInt_sub, z0, Int.bmod_eq_of_le (by omega) (by omega)]
    omega
  have b1 : -60 ≤ y.toInt ∧ y.toInt < 0 := by
    rw [Int32.le_iff_toInt_le] at h1 h2
    have z0 : (0 : Int32).toInt = 0 := rfl
    have z1 : (-60 : Int32).toInt = -60 := rfl
    rw [z0] at h2
    rw [z1] at h1
    omega
  have hn : ¬ (0 - y : Int32) < 0 := by
    rw [Int32.lt_iff_toInt_lt, e]
    have z0 : (0 : Int32).toInt = 0 := rfl
    rw [z0]
    omega
  obtain ⟨j, hj, ej⟩ := nI_of hn
  have ej2 : (j : Int) = - y.toInt := by rw [← e, ej, nI_toInt hj]
  refine ⟨j, by omega, by omega, ej, ?_⟩
  rw [← ej]
  apply Int32.toInt_inj.mp
  rw [Int32.toInt_sub, e]
  have z0 : (0 : Int32).toInt = 0 := rfl
  rw [z0, Int.bmod_eq_of_le (by omega) (by omega)]
  omega
theorem sub_neg1 {a b : Int32} : a - (0 - b) = a + b := by
  rw [Int32.zero_sub, Int32.sub_neg]
theorem add_neg1 {a b : Int32} : a + (0 - b) = a - b := by
  rw [Int32.zero_sub, ← Int32.sub_eq_add_neg]
/-- what load's calls want to know -/
theorem tc_ld {b g : Nat} (h : tn_c t H M B N C) (hb : b < B) (hg4 : g < 4) (hp : C (aB 0 b) 3 = 0 ∨ C (aB 0 b) 3 = 1) : ∃ o h0, o < 5 ∧ h0 < H ∧ C (aB 0 b) 0 = nI o ∧ C (aB 0 b) 4 = nI h0 ∧ 0 ≤ C (aMt 0 (nv (C (aB 0 b) 0))) ((nv (C (aB 0 b) 4)) * 4 + g) ∧ 0 ≤ C (aBc 0 b) g ∧ ∃ s r, s ≤ r ∧ r ≤ 60 ∧ sm (C (aBc 0 b)) 4 = nI s ∧ C (aB 0 b) 2 = nI r ∧ s = tn_ts (fun g => nv (C (aBc 0 b) g)) 4 := by
  obtain ⟨hs, hk, -, hg, hn⟩ := h
  have hB := hs.2.2.1.2
  have hH := hs.1.2
  obtain ⟨⟨o, o1, o2⟩, -, q3, -⟩ := hs.2.2.2.2.1 b hb
  obtain ⟨h0, h1, h2⟩ := q3 (by rcases hp with q | q <;> rw [q] <;> decide)
  obtain ⟨r, r1, r2, r3⟩ := (hn.1 b hb).2
  have ec := hg.2.2.2.2.1 b (by omega)
  have hS := tg_S hg (m := o) (k := h0 * 4 + g) o1 (by omega)
  have eS := hg.2.2.2.1 o o1 (h0 * 4 + g) (by omega)
  refine ⟨o, h0, o1, h1, o2, h2, ?_, ?_, _, r, r3, r1, tn_sm (fun k hk => ec k hk), r2, rfl⟩
  · rw [o2, h2, nv_nI (by omega), nv_nI (by omega), eS]
    exact nI_pos' (by omega)
  · have hle : nv (C (aBc 0 b) g) ≤ tn_ts (fun g => nv (C (aBc 0 b) g)) 4 := tn_le (f := fun g => nv (C (aBc 0 b) g)) hg4
    rw [ec g hg4]
    exact nI_pos' (by omega)
theorem tc_load {b g : Nat} {y : Int32} (h : tn_c t H M B N C) (ht : t + 1 ≤ 512) (hb : b < B) (hg4 : g < 4) (hy : -60 ≤ y ∧ y ≤ 60) (h0y : ¬ y = 0) (hp : C (aB 0 b) 3 = 0 ∨ C (aB 0 b) 3 = 1) (he : (if 0 ≤ y then y else 0 - y) ≤ (if 0 < y then C (aMt 0 (nv (C (aB 0 b) 0))) (nv (C (aB 0 b) 4) * 4 + g) else C (aBc 0 b) g)) (hf : y ≤ C (aB 0 b) 2 - sm (C (aBc 0 b)) 4) : tn_c (t + 1) H M B N (f_load b g y C) := by
  obtain ⟨o, x, o1, x1, eo, ex, -, -, s, r, s1, r1, es, er, e9⟩ := tc_ld h hb hg4 hp
  obtain ⟨hs, hk, ⟨d, d1, d2⟩, hg, hn⟩ := h
  obtain ⟨z1, z2, z3⟩ := sf_Z hs
  have hH := hs.1.2
  have hc : x * 4 + g < 32 := by omega
  have hS := tg_S hg o1 hc
  have eS := hg.2.2.2.1 o o1 _ hc
  have ec := hg.2.2.2.2.1 b (by omega) g hg4
  have eT := hg.2.2.2.2.2.2
  have hle : nv (C (aBc 0 b) g) ≤ tn_ts (fun g => nv (C (aBc 0 b) g)) 4 := tn_le (f := fun g => nv (C (aBc 0 b) g)) hg4
  rw [← e9] at hle
  -- new numbers
  have key : ∃ s2 c2, C (aMt 0 o) (x * 4 + g) - y = nI s2 ∧ C (aBc 0 b) g + y = nI c2 ∧ s2 + c2 = nv (C (aMt 0 o) (x * 4 + g)) + nv (C (aBc 0 b) g) ∧ s + c2 ≤ r + nv (C (aBc 0 b) g) := by
    rw [eo, ex, nv_nI (by omega), nv_nI (by omega)] at he
    rw [er, es, nI_sb s1] at hf
    by_cases p : 0 ≤ y
    · have p1 : 0 < y := Int32.lt_of_le_of_ne p (fun q => h0y q.symm)
      rw [if_pos p, if_pos p1] at he
      obtain ⟨j, -, j2, rfl⟩ := tn_rg (a := 0) (b := 60) ⟨p, hy.2⟩ rfl rfl (by decide) (by decide)
      rw [eS] at he
      have l1 : j ≤ nv (C (aMt 0 o) (x * 4 + g)) := (nI_leI (by omega) (by omega)).mp he
      have l2 : j ≤ r - s := (nI_leI (by omega) (by omega)).mp hf
      refine ⟨nv (C (aMt 0 o) (x * 4 + g)) - j, nv (C (aBc 0 b) g) + j, ?_, ?_, by omega, by omega⟩
      · rw [eS, nI_sb l1, nv_nI (by omega)]
      · rw [ec, nI_add, nv_nI (by omega)]
    · rw [if_neg p, if_neg (fun q => p (Int32.le_of_lt q))] at he
      obtain ⟨j, j1, j2, j3, j4⟩ := nI_neg hy.1 p
      rw [j3, ec] at he
      have l1 : j ≤ nv (C (aBc 0 b) g) := (nI_leI (by omega) (by omega)).mp he
      refine ⟨nv (C (aMt 0 o) (x * 4 + g)) + j, nv (C (aBc 0 b) g) - j, ?_, ?_, by omega, by omega⟩
      · rw [j4, sub_neg1, eS, nI_add, nv_nI (by omega)]
      · rw [j4, add_neg1, ec, nI_sb l1, nv_nI (by omega)]
  obtain ⟨s2, c2, k1, k2, k3, k4⟩ := key
  have hC2 := tg_C hg (m := 0) (by decide)
  unfold f_load
  dsimp only
  rw [eo, ex, nv_nI (by omega), nv_nI (by omega), k1, jj_u_ne (show aBc 0 b ≠ aMt 0 o by simp only [aBc, aMt]; omega), k2]
  have hcl : s2 < 2 ^ 31 := by omega
  have hu := tS_u (w := 0) (C := C) (m := o) (k := x * 4 + g) (v := s2) o1 hc hcl
  have hK : nv (C (aBc 0 b) g) ≤ tn_K 0 C := by
    have h2 : tn_ts (fun k => nv (C (aBc 0 b) k)) 4 ≤ tn_K 0 C := tn_le (f := fun m => tn_ts (fun k => nv (C (aBc 0 m) k)) 4) (show b < 10 by omega)
    omega
  have hcl2 : c2 < 2 ^ 31 := by omega
  -- the cargo first, for the room in between
  have fin : tn_g 0 (t + 1) N (jj_u (jj_u C (aMt 0 o) (x * 4 + g) (nI s2)) (aBc 0 b) g (nI c2)) := by
    have comm : jj_u (jj_u C (aMt 0 o) (x * 4 + g) (nI s2)) (aBc 0 b) g (nI c2) = jj_u (jj_u C (aBc 0 b) g (nI c2)) (aMt 0 o) (x * 4 + g) (nI s2) := by
      have hne : aMt 0 o ≠ aBc 0 b := by simp only [aBc, aMt]; omega
      funext a k
      unfold jj_u
      by_cases q1 : a = aBc 0 b ∧ k = g
      · rw [if_pos q1, if_neg (fun q2 => hne (q2.1.symm.trans q1.1)), if_pos q1]
      · rw [if_neg q1]
        by_cases q2 : a = aMt 0 o ∧ k = x * 4 + g
        · rw [if_pos q2, if_pos q2]
        · rw [if_neg q2, if_neg q2, if_neg q1]
    by_cases q : s2 ≤ nv (C (aMt 0 o) (x * 4 + g))
    · have h1 : tn_g 0 t N (jj_u C (aMt 0 o) (x * 4 + g) (nI s2)) := tg_stock hg o1 hc rfl hg.1 (by omega)
      have hc2 := tC_cg (w := 0) (C := C) (J := jj_u C (aMt 0 o) (x * 4 + g) (nI s2)) (fun p _ => by rw [jj_u_ne (by simp only [aMt, aM]; omega)])
      have hk2 := tK_cg (w := 0) (C := C) (J := jj_u C (aMt 0 o) (x * 4 + g) (nI s2)) (fun p _ => jj_u_ne (by simp only [aBc, aMt]; omega))
      refine tg_cargo (v := c2) h1 (by omega) hg4 rfl ht ?_
      rw [hc2, hk2, jj_u_ne (by simp only [aBc, aMt]; omega)]
      omega
    · rw [comm]
      have h1 : tn_g 0 t N (jj_u C (aBc 0 b) g (nI c2)) := tg_cargo hg (by omega) hg4 rfl hg.1 (by omega)
      have hu2 := tK_u (w := 0) (C := C) (b := b) (g := g) (v := c2) (by omega) hg4 hcl2
      have hc2 := tC_cg (w := 0) (C := C) (J := jj_u C (aBc 0 b) g (nI c2)) (fun p _ => by rw [jj_u_ne (by simp only [aBc, aM]; omega)])
      have hk2 := tS_cg (w := 0) (C := C) (J := jj_u C (aBc 0 b) g (nI c2)) (fun p _ => jj_u_ne (by simp only [aBc, aMt]; omega))
      refine tg_stock (v := s2) h1 o1 hc rfl ht ?_
      rw [hc2, hk2, jj_u_ne (show aMt 0 o ≠ aBc 0 b by simp only [aBc, aMt]; omega)]
      omega
  have ho : ∀ a, a ≠ aMt 0 o → a ≠ aBc 0 b → jj_u (jj_u C (aMt 0 o) (x * 4 + g) (nI s2)) (aBc 0 b) g (nI c2) a = C a := fun a q1 q2 => by rw [jj_u_ne q2, jj_u_ne q1]
  have eR : ∀ k, jj_u (jj_u C (aMt 0 o) (x * 4 + g) (nI s2)) (aBc 0 b) g (nI c2) (aBc 0 b) k = if k = g then nI c2 else C (aBc 0 b) k := fun k => by
    by_cases q : k = g
    · subst q; rw [jj_u_eq, if_pos rfl]
    · rw [jj_u_nk q, if_neg q, jj_u_ne (by simp only [aBc, aMt]; omega)]
  generalize jj_u (jj_u C (aMt 0 o) (x * 4 + g) (nI s2)) (aBc 0 b) g (nI c2) = J at fin ho eR ⊢
  have oB : ∀ q, q < 10 → J (aB 0 q) = C (aB 0 q) := fun q _ => ho _ (by simp only [aB, aMt]; omega) (by simp only [aB, aBc]; omega)
  have oD : ∀ q, q < 30 → J (aD 0 q) = C (aD 0 q) := fun q _ => ho _ (by simp only [aD, aMt]; omega) (by simp only [aD, aBc]; omega)
  have o9 : ∀ a, a < 12 → J a = C a := fun a ha => ho _ (by simp only [aMt]; omega) (by simp only [aBc]; omega)
  refine ⟨sf_cg hs (by rw [o9 _ (by decide)]) (o9 _ (by decide)) oB oD, sk_cg hk ⟨z1, z2, z3⟩ (o9 _ (by decide)) oB oD, ⟨d, by omega, by rw [o9 _ (by decide)]; exact d2⟩, fin, tb_bo hn hb z2 (fun q q1 q2 => ⟨oB q q1, ho _ (by simp only [aBc, aMt]; omega) (by simp only [aBc]; omega)⟩) (o9 _ (by decide)) (hu_cg (by rw [oB b (by omega)]) (by rw [oB b (by omega)]) (hn.1 b hb).1) ⟨r, r1, by rw [oB b (by omega)]; exact er, ?_⟩ (fun q => ?_)⟩
  · have hup := tn_up (f := fun k => nv (C (aBc 0 b) k)) (g := fun k => nv (J (aBc 0 b) k)) (j := g) (n := 4) hg4 (fun k _ q => by rw [eR, if_neg q])
    rw [eR g, if_pos rfl, nv_nI hcl2] at hup
    omega
  · rw [oB b (by omega)] at q ⊢
    exact ⟨q, rfl⟩
theorem tc_mend {b : Nat} (h : tn_c t H M B N C) (ht : t + 1 ≤ 512) (hb : b < B) (hp : C (aB 0 b) 3 = 0 ∨ C (aB 0 b) 3 = 1) : tn_c (t + 1) H M B N (f_mend b C) := by
  obtain ⟨hs, hk, ⟨d, d1, d2⟩, hg, hn⟩ := id h
  obtain ⟨z1, z2, z3⟩ := sf_Z hs
  obtain ⟨⟨o, o1, o2⟩, -⟩ := hs.2.2.2.2.1 b hb
  have hp3 : ¬ C (aB 0 b) 3 = 3 := by rcases hp with q | q <;> rw [q] <;> decide
  obtain ⟨x, x1, x2, ex⟩ := (hn.1 b hb).1.2 hp3
  have hC := tg_C hg o1
  have ec := hg.2.2.1 o o1
  have eT := hg.2.2.2.2.2.2
  have e3 : C (aM 0 o) 0 / 3 = nI (nv (C (aM 0 o) 0) / 3) := by
    conv => lhs; rw [ec]
    exact pk_div (d := 3) (by omega) (by decide) (by decide)
  have e20 : (20 : Int32) - nI x = nI (20 - x) := nI_sb (a := 20) x2
  have key : ∃ p, p ≤ 20 - x ∧ p ≤ nv (C (aM 0 o) 0) / 3 ∧ f_pts b C = nI p := by
    unfold f_pts
    rw [o2, nv_nI (by omega), ex, e3, e20]
    by_cases c : nI (nv (C (aM 0 o) 0) / 3) < nI (20 - x)
    · rw [if_pos c]
      have := (nI_ltI (by omega) (by omega)).mp c
      exact ⟨_, by omega, Nat.le_refl _, rfl⟩
    · rw [if_neg c]
      have : ¬ nv (C (aM 0 o) 0) / 3 < 20 - x := fun q => c (nI_lt q (by omega))
      exact ⟨_, Nat.le_refl _, by omega, rfl⟩
  obtain ⟨p, p1, p2, ep⟩ := key
  unfold f_mend
  dsimp only
  rw [ep, o2, nv_nI (by omega), show nI p * 3 = nI (p * 3) from nI_ml p 3, jj_u_ne (show aB 0 b ≠ aM 0 o by simp only [aB, aM]; omega), ex, nI_add]
  have el : C (aM 0 o) 0 - nI (p * 3) = nI (nv (C (aM 0 o) 0) - p * 3) := by rw [ec, nI_sb (by omega), nv_nI (by omega)]
  rw [el]
  have h1 : tn_c (t + 1) H M B N (jj_u C (aM 0 o) 0 (nI (nv (C (aM 0 o) 0) - p * 3))) := tc_mer h (fun a ha => jj_u_ne (ha o o1).1) (tg_coin (v := nv (C (aM 0 o) 0) - p * 3) hg o1 rfl ht (by omega))
  have hp2 : ¬ jj_u C (aM 0 o) 0 (nI (nv (C (aM 0 o) 0) - p * 3)) (aB 0 b) 3 = 3 := by rw [jj_u_ne (by simp only [aB, aM]; omega)]; exact hp3
  generalize jj_u C (aM 0 o) 0 (nI (nv (C (aM 0 o) 0) - p * 3)) = J at h1 hp2 ⊢
  obtain ⟨hs, hk, ⟨d, d1, d2⟩, hg, hn⟩ := h1
  have ho : ∀ a, a ≠ aB 0 b → jj_u J (aB 0 b) 1 (nI (x + p)) a = J a := fun a e => jj_u_ne e
  refine ⟨sf_bo hs (by omega) (fun a e _ _ => ho a e) (fun hb2 => sfB_set (hs.2.2.2.2.1 b hb) (by omega)), sk_bo hk ⟨z1, z2, z3⟩ hb (fun a e _ _ => ho a e) (jj_u_nk (by decide)) ?_, ⟨d, d1, by rw [ho _ (by simp only [aR, aB]; omega)]; exact d2⟩, tg_B (k := b) hg (by omega) ho, tb_bo hn hb z2 (fun q _ e => ⟨ho _ (by simp only [aB]; omega), ho _ (by simp only [aBc, aB]; omega)⟩) (ho _ (by simp only [aBe, aB]; omega)) ⟨fun q => ?_, fun _ => ⟨x + p, by omega, by omega, jj_u_eq⟩⟩ (ro_cg (jj_u_nk (by decide)) (ho _ (by simp only [aBc, aB]; omega)) (hn.1 b hb).2) (fun e => ?_)⟩
  · unfold sfG
    rw [jj_u_nk (by decide), jj_u_nk (by decide)]
    exact (hk.2.1 b hb).1
  · rw [jj_u_nk (by decide)] at q
    exact absurd q hp2
  · rw [jj_u_nk (by decide)] at e
    rw [jj_u_nk (by decide)]
    exact ⟨e, rfl⟩
end TQ
