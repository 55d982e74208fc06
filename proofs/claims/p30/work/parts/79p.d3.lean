/-! a day keeps what holds -/
section DK
variable {H M B N n t d : Nat} {K : jj_K} {P : jj_P} {C I J X Y : jj_I}
theorem pd_in {S : jj_I → Prop} (hs : sf 0 H M B N C) (hk : sk 0 H M B N C) (h0 : S (f_fr 0 H d C)) (h1 : ∀ k y, k < B → sf 0 H M B N y → sk 0 H M B N y → S y → S (f_py 0 k y)) (h2 : ∀ k y, k < B → sf 0 H M B N y → sk 0 H M B N y → S y → S (f_bi 0 k H (f_go 0 k y)))
    (h3 : ∀ k y, k < N → sf 0 H M B N y → sk 0 H M B N y → S y → S (f_se 0 k y)) (h4 : ∀ y, S y → S (jj_u y (aR 0) 0 (y (aR 0) 0 + 1))) : S (f_pd 0 H B N d C) := by
  have a1 := it_in (f := f_py 0) (S := fun J => (sf 0 H M B N J ∧ sk 0 H M B N J) ∧ S J) ⟨⟨sf_fr (d := d) hs, sk_fr (d := d) hk⟩, h0⟩ (N := B) (fun k y hk hy => ⟨⟨sf_py hy.1.1 hk, sk_py hy.1.1 hy.1.2 hk⟩, h1 k y hk hy.1.1 hy.1.2 hy.2⟩) B (Nat.le_refl _)
  have a2 := it_in (f := fun k M => f_bi 0 k H (f_go 0 k M)) (S := fun J => (sf 0 H M B N J ∧ sk 0 H M B N J) ∧ S J) a1 (N := B) (fun k y hk hy => ⟨⟨sf_gb hy.1.1 hk, sk_gb hy.1.1 hy.1.2 hk⟩, h2 k y hk hy.1.1 hy.1.2 hy.2⟩) B (Nat.le_refl _)
  have a3 := it_in (f := f_se 0) (S := fun J => (sf 0 H M B N J ∧ sk 0 H M B N J) ∧ S J) a2 (N := N) (fun k y hk hy => ⟨⟨sf_se hy.1.1 hk, sk_se hy.1.1 hy.1.2 hk⟩, h3 k y hk hy.1.1 hy.1.2 hy.2⟩) N (Nat.le_refl _)
  exact h4 _ a3.2
theorem dz_pd (hs : sf 0 H M B N C) (hk : sk 0 H M B N C) (h : dz N C) : dz N (f_pd 0 H B N d C) :=
  pd_in hs hk (dz_fr h) (fun k y h1 h2 h3 h4 => dz_py h2 h3 h1 h4) (fun k y h1 h2 h3 h4 => dz_gb h2 h1 h4) (fun k y h1 h2 h3 h4 => dz_se h2 h3 h1 h4) (fun y h4 => dz_off h4 (fun k hk2 => jj_u_ne (by simp only [aD, aR]; omega)))
theorem oz_off (h : oz H C) (e : ∀ m, m < 5 → J (aMt 0 m) = C (aMt 0 m)) : oz H J := fun m hm c h1 h2 => by rw [e m hm]; exact h m hm c h1 h2
theorem oz_se {k : Nat} (hs : sf 0 H M B N C) (hk : k < N) (h : oz H C) : oz H (f_se 0 k C) := by
  have hN2 := hs.2.2.2.1.2
  have hH2 := hs.1.2
  obtain ⟨⟨a, ha, e0⟩, ⟨q, hq, e1⟩, ⟨x, hx, e2⟩, ⟨g, hg, e3⟩⟩ := hs.2.2.2.2.2 k hk
  rw [se_eq e0 e1 e2 e3 ha hq (by omega) hg]
  have nD : ∀ m, m < 5 → aD 0 k ≠ aMt 0 m := fun m hm => by simp only [aD, aMt]; omega
  have nM : ∀ m p, m < 5 → p < 5 → aM 0 p ≠ aMt 0 m := fun m p hm hp => by simp only [aM, aMt]; omega
  split
  · split
    · split
      · exact oz_ne h nD
      · exact oz_ne (oz_ne (oz_ne h (fun m hm => nM m q hm hq)) (fun m hm => nM m a hm ha)) nD
    · exact oz_ne (oz_hd h (by omega)) nD
  · exact h
theorem oz_pd (hs : sf 0 H M B N C) (hk : sk 0 H M B N C) (h : oz H C) : oz H (f_pd 0 H B N d C) := by
  have hB2 := hs.2.2.1.2
  refine pd_in hs hk (oz_off h (fun m hm => fr_fr (by simp only [aMt, aIc]; omega))) (fun k y h1 h2 h3 h4 => oz_off h4 (fun m hm => ?_)) (fun k y h1 h2 h3 h4 => oz_off h4 (fun m hm => fr_gb (by simp only [aMt, aB]; omega) (by simp only [aMt, aBc]; omega))) (fun k y h1 h2 h3 h4 => oz_se h2 h1 h4) (fun y h4 => oz_off h4 (fun m hm => jj_u_ne (by simp only [aMt, aR]; omega)))
  obtain ⟨o, ho, eo⟩ := (h2.2.2.2.2.1 k h1).1
  exact fr_py (by simp only [aMt, aB]; omega) (by rw [eo, nv_nI (by omega)]; simp only [aMt, aM]; omega)
theorem lw_pd (hs : sf 0 H M B N C) (hk : sk 0 H M B N C) (hh : ∀ b, b < B → tn_hu 0 C b) (h : lw B C) : lw B (f_pd 0 H B N d C) := fun b hb => by
  have hd := day_d (d := d) hs hk hb (h b hb) (hh b hb)
  by_cases c : C (aB 0 b) 3 = 3
  · rw [(hd.1 c).1]
    exact h b hb
  · obtain ⟨hu, -, -, -, q⟩ := hd.2 c
    rcases q with ⟨e3, -, -, -, e7, -⟩ | ⟨-, -, q, -⟩
    · refine ⟨fun _ => e7, fun w => ?_⟩
      rw [e3] at w; exact absurd w (by decide)
    · exact q
/-- what holds behind both rivers' day -/
theorem lv_pd {A A1 : Nat → Nat} {n1 : Nat} {K1 : jj_K} {I1 : jj_I} {P1 : jj_P} (hv : lv A H M B N n t K I P) (ht : t + 2 ≤ 512) (hd : I (aR 0) 0 = nI d) (hd2 : d ≤ 200 * t) (hs1 : sy A1 H M B N n1 K1 P1) (hm1 : ms A1 H M B N (f_pd 0 H B N d I) I1) (hw : fw A H M B N n K (f_pd 0 H B N d I) P A1 n1 K1 I1 P1) : lv A1 H M B N n1 (t + 2) K1 I1 P1 ∧ eqA I1 (f_pd 0 H B N d I) := by
  obtain ⟨a1, a2, a3, a4, a5, a6, a7, a8⟩ := id hv
  have g0 := sy_lt a2 (t := 0) sv_0
  have lo : ∀ a, a < 150 → I1 a = f_pd 0 H B N d I a ∧ P1 a = P a := fun a ha => hw.2.2.1 a (by omega) (fun t ht e => by have := sy_lt a2 ht; omega)
  have eq : eqA I1 (f_pd 0 H B N d I) := fun a ha => (lo a ha).1
  refine ⟨⟨ly_up a1 (fun a ha => hw.2.1 a (by omega)) (fun a ha => (lo a ha).2), hs1, ms_cg a2.1 hm1 (fun _ _ => rfl) eq, eqA_tc eq (by omega) (tc_pass (y := 1) a4 (by omega) hd hd2 (by omega)), ?_, a6, a7, a8.1, a8.2.1, ?_, ?_⟩, eq⟩
  · exact dz_off (dz_pd a4.1 a4.2.1 a5) (fun k hk => eq _ (by have := a2.1.2.2.2; simp only [aD]; omega))
  · exact oz_off (oz_pd (d := d) a4.1 a4.2.1 a8.2.2.1) (fun m hm => eq _ (by simp only [aMt]; omega))
  · intro b hb
    rw [eq _ (by have := a2.1.2.2.1; simp only [aB]; omega)]
    exact lw_pd a4.1 a4.2.1 (fun b hb => (a4.2.2.2.2.1 b hb).1) a8.2.2.2 b hb
end DK
