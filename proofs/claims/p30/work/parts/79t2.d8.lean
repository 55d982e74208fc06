/-! what the trial's rows don't reach; a new river -/
section DU
variable {A A' : Nat → Nat} {H M B N n n1 t : Nat} {K K1 : jj_K} {P P1 : jj_P} {C C' I I' J : jj_I}
theorem ms_72 (hn : sy_N H M B N) (hm : ms A H M B N C I) (hI : ∀ t, sy_K H M B N t ≠ none → I' (A t) = I (A t)) (hC : ∀ a, a < 72 → C' a = C a) : ms A H M B N C' I' := by
  obtain ⟨m1, m2, m3, m4, m5, m6, m7, m8, m9⟩ := hm
  obtain ⟨n1, n2, n3, n4⟩ := id hn
  refine ⟨?_, fun k hk => ?_, fun l hl => ?_, fun l hl => ?_, fun m hm => ?_, fun h hh => ?_, fun b hb => ?_, fun d hd f hf => ?_, fun m hm h hh g hg => ?_⟩
  · rw [hI 0 sv_0, hC _ (by simp only [aR]; omega)]; exact m1
  · rw [hI 1 sv_1, hC _ (by simp only [aWm]; omega)]; exact m2 k hk
  · rw [hI 2 sv_2, hC _ (by simp only [aLd]; omega)]; exact m3 l hl
  · rw [hI 3 sv_3, hC _ (by simp only [aIc]; omega)]; exact m4 l hl
  · rw [hI 4 sv_4, hC _ (by simp only [aM]; omega)]; exact m5 m hm
  · rw [hI _ (sv_H hn hh), hC _ (by simp only [aBe]; omega), hC _ (by simp only [aPr]; omega)]; exact m6 h hh
  · exact msB_cg (m7 b hb) (hI _ (sv_B hn hb)) (hI _ (sv_G hn hb)) (hC _ (by simp only [aB]; omega)) (hC _ (by simp only [aBc]; omega))
  · rw [hI _ (sv_D hn hd), hC _ (by simp only [aD]; omega)]; exact m8 d hd f hf
  · rw [hI _ (sv_S hn hm hh), hC _ (by simp only [aMt]; omega)]; exact m9 m hm h hh g hg
theorem tc_e (h : tn_c t H M B N C) (e : eqT J C) : tn_c t H M B N J := by
  obtain ⟨hs, hk, ⟨d, hd, ed⟩, hg, hb⟩ := h
  have hB2 := hs.2.2.1.2
  have hN2 := hs.2.2.2.1.2
  have eB : ∀ b, b < 10 → J (aB 0 b) = C (aB 0 b) := fun b hb => e _ (by simp only [aB]; omega)
  have eC : ∀ b, b < 10 → J (aBc 0 b) = C (aBc 0 b) := fun b hb => e _ (by simp only [aBc]; omega)
  have eD : ∀ d, d < 30 → J (aD 0 d) = C (aD 0 d) := fun d hd => e _ (by simp only [aD]; omega)
  have eR : J (aR 0) = C (aR 0) := e _ (by simp only [aR]; omega)
  exact ⟨sf_cg hs (by rw [eR]) (e _ (by simp only [aW]; omega)) eB eD, sk_cg hk (sf_Z hs) (e _ (by simp only [aLd]; omega)) eB eD, ⟨d, hd, by rw [eR]; exact ed⟩,
    tg_cg hg (fun k _ => by rw [e _ (by simp only [aPr]; omega)]) (fun m hm => by rw [e _ (by simp only [aM]; omega)]) (fun m hm => e _ (by simp only [aMt]; omega)) eC (fun d hd => by rw [eD d (by omega)]), tb_cg hb eB hB2 eC (e _ (by simp only [aBe]; omega))⟩
theorem lv_ext (hv : lv A H M B N n t K I P) (hn : n ≤ n1) (hK : ∀ a, a < n → K1 a = K a) (hP : ∀ a, a < n → P1 a = P a) (hI : ∀ a, a < n → offT a → J a = I a) : lv A H M B N n1 t K1 J P1 := by
  obtain ⟨a1, a2, a3, a4, a5, a6, a7, a8⟩ := id hv
  have g0 := sy_lt a2 (t := 0) sv_0
  have e : eqT J I := fun a ha => hI a (by omega) (Or.inl ha)
  refine ⟨ly_up a1 (fun a ha => hK a (by omega)) (fun a ha => hP a (by omega)), sy_up a2 hn hK hP, ms_72 a2.1 a3 (fun t ht => hI _ (sy_lt a2 ht).2 (Or.inr (by have := sy_lt a2 ht; omega))) e, tc_e a4 e, dz_off a5 (fun k hk => e _ (by have := a2.1.2.2.2; simp only [aD]; omega)), a6, a7, a8.1, a8.2.1, oz_off a8.2.2.1 (fun m hm => e _ (by simp only [aMt]; omega)), fun b hb => ?_⟩
  rw [e _ (by have := a2.1.2.2.1; simp only [aB]; omega)]
  exact a8.2.2.2 b hb
/-- the class, new -/
theorem lc0_wx {K0 : jj_K} {I0 : jj_I} {P0 : jj_P} (h : wx K0 I0 P0 K J P) : lc0 J := by
  have h1 : ∀ o, o < 70 → (ly_Kw o).1 ≤ 10 → ∀ k, J (2 + o) k = if o = 2 ∧ k < 40 then 4 else 0 := fun o ho hk k => h.2.2.1 0 (by decide) o ho hk k
  have z : ∀ a o, a = 2 + o → o < 70 → (ly_Kw o).1 ≤ 10 → o ≠ 2 → ∀ k, J a k = 0 := fun a o e ho hk hne k => by
    rw [e, h1 o ho hk k, if_neg (fun q => hne q.1)]
  have zR : ∀ k, J (aR 0) k = 0 := z _ 1 rfl (by decide) (by decide +kernel) (by decide)
  have zW : ∀ k, J (aW 0) k = 0 := z _ 0 rfl (by decide) (by decide +kernel) (by decide)
  have zI : ∀ k, J (aIc 0) k = 0 := z _ 4 rfl (by decide) (by decide +kernel) (by decide)
  have zP : ∀ k, J (aPr 0) k = 0 := z _ 6 rfl (by decide) (by decide +kernel) (by decide)
  have zM : ∀ m, m < 5 → ∀ k, J (aM 0 m) k = 0 := fun m hm => z _ (10 + 2 * m) (by simp only [aM]; omega) (by omega) ((by decide +kernel : ∀ m, m < 5 → (ly_Kw (10 + 2 * m)).1 ≤ 10) m hm) (by omega)
  have zS : ∀ m, m < 5 → ∀ k, J (aMt 0 m) k = 0 := fun m hm => z _ (11 + 2 * m) (by simp only [aMt]; omega) (by omega) ((by decide +kernel : ∀ m, m < 5 → (ly_Kw (11 + 2 * m)).1 ≤ 10) m hm) (by omega)
  have zB : ∀ b, b < 10 → ∀ k, J (aB 0 b) k = 0 := fun b hb => z _ (20 + 2 * b) (by simp only [aB]; omega) (by omega) ((by decide +kernel : ∀ m, m < 10 → (ly_Kw (20 + 2 * m)).1 ≤ 10) b hb) (by omega)
  have zC : ∀ b, b < 10 → ∀ k, J (aBc 0 b) k = 0 := fun b hb => z _ (21 + 2 * b) (by simp only [aBc]; omega) (by omega) ((by decide +kernel : ∀ m, m < 10 → (ly_Kw (21 + 2 * m)).1 ≤ 10) b hb) (by omega)
  have zWm : ∀ k, k < 40 → J (aWm 0) k = 4 := fun k hk => by
    rw [show aWm 0 = 2 + 2 from rfl, h1 2 (by decide) (by decide +kernel) k, if_pos ⟨rfl, hk⟩]
  have n0 : (0 : Int32) = nI 0 := nI_0.symm
  have v0 : nv 0 = 0 := rfl
  refine ⟨⟨⟨⟨by rw [zR, n0], by decide⟩, ⟨by rw [zW, n0], by decide⟩, ⟨by rw [zW, n0], by decide⟩, ⟨by rw [zW, n0], by decide⟩, fun b hb => absurd hb (by omega), fun b hb => absurd hb (by omega)⟩, ⟨fun l hl => absurd hl (by omega), fun b hb => absurd hb (by omega), fun b hb => absurd hb (by omega)⟩, ⟨0, by decide, by rw [zR, n0]⟩, ⟨by decide, fun k _ => ⟨0, by decide, by rw [zP, n0]⟩, fun m hm => by rw [zM m hm, v0, n0], fun m hm k _ => by rw [zS m hm, v0, n0], fun b hb g _ => by rw [zC b hb, v0, n0], fun q hq => absurd hq (by omega), ?_⟩, ⟨fun b hb => absurd hb (by omega), fun b _ hb => ⟨zB b hb 7, fun g _ => zC b hb g⟩, fun q hq => absurd hq (by omega)⟩⟩, zWm, zP, zI, fun m hm c _ => zS m hm c, zR 0⟩
  have s1 : tn_S 0 J = 0 := tn_zero (fun m hm => tn_zero (fun k _ => by rw [zS m hm]; rfl))
  have s2 : tn_K 0 J = 0 := tn_zero (fun m hm => tn_zero (fun k _ => by rw [zC m hm]; rfl))
  have s3 : tn_C 0 J = 0 := tn_zero (fun m hm => by rw [zM m hm]; rfl)
  rw [s1, s2, s3]
  decide
end DU
