/-! numbers along a day -/
section TD
variable {w H M B N t d : Nat} {C J : jj_I}
theorem tg_d6 {k : Nat} {v : Int32} (h : tn_g w t N C) (hk : k < 30) : tn_g w t N (jj_u C (aD w k) 6 v) :=
  tg_cg h (fun q _ => by rw [jj_u_ne (by simp only [aPr, aD]; omega)]) (fun m _ => by rw [jj_u_ne (by simp only [aM, aD]; omega)]) (fun m _ => jj_u_ne (by simp only [aMt, aD]; omega)) (fun b _ => jj_u_ne (by simp only [aBc, aD]; omega)) (fun q hq => by
    by_cases e : q = k
    · subst e; rw [jj_u_nk (by decide)]
    · rw [jj_u_ne (by simp only [aD]; omega)])
theorem tg_B {k : Nat} (h : tn_g w t N C) (hk : k < 10) (ho : ∀ x, x ≠ aB w k → J x = C x) : tn_g w t N J :=
  tg_at h ho (by simp only [aB, aPr]; omega) (fun m _ => by simp only [aB, aM]; omega) (fun m _ => by simp only [aB, aMt]; omega) (fun b _ => by simp only [aB, aBc]; omega) (fun q _ => by simp only [aB, aD]; omega)
theorem py_n {k : Nat} (hs : sf w H M B N C) (hg : tn_g w t N C) (hb : tn_b w H B C) (hk : k < B) : tn_g w t N (f_py w k C) ∧ tn_b w H B (f_py w k C) := by
  have hB2 := hs.2.2.1.2
  obtain ⟨⟨o, ho, eo⟩, -⟩ := hs.2.2.2.2.1 k hk
  have hC := tg_C hg ho
  have hu := hu_py (w := w) (C := C) (k := k) (b := k) ⟨o, ho, eo⟩ (by omega) (by omega) (hb.1 k hk).1
  have e0 := hg.2.2.1 o ho
  have et := hg.1
  have eT := hg.2.2.2.2.2.2
  unfold f_py at hu ⊢
  rw [eo, nv_nI (by omega)] at hu ⊢
  by_cases c : C (aB w k) 3 = 1
  · rw [if_pos c] at hu ⊢
    by_cases c2 : 0 < C (aM w o) 0
    · rw [if_pos c2]
      have h1 : 1 ≤ nv (C (aM w o) 0) := by
        refine Nat.pos_of_ne_zero (fun z => ?_)
        rw [e0, z] at c2
        exact absurd c2 (by decide)
      refine ⟨tg_coin (v := nv (C (aM w o) 0) - 1) hg ho (by rw [← jm_sub1 h1, ← e0]) et (by omega), tb_cg hb (fun b _ => jj_u_ne (by simp only [aB, aM]; omega)) hB2 (fun b _ => jj_u_ne (by simp only [aBc, aM]; omega)) (jj_u_ne (by simp only [aBe, aM]; omega))⟩
    · rw [if_neg c2] at hu ⊢
      refine ⟨tg_B hg (by omega) (fun x hx => jj_u_ne hx), tb_bo hb hk hB2 (fun b _ hne => ⟨jj_u_ne (by simp only [aB]; omega), jj_u_ne (by simp only [aBc, aB]; omega)⟩) (jj_u_ne (by simp only [aBe, aB]; omega)) hu (ro_cg (jj_u_nk (by decide)) (jj_u_ne (by simp only [aBc, aB]; omega)) (hb.1 k hk).2) (fun e => ?_)⟩
      rw [jj_u_eq] at e
      exact absurd e (by decide)
  · rw [if_neg c]
    exact ⟨hg, hb⟩
theorem go_n {k : Nat} (hs : sf w H M B N C) (hg : tn_g w t N C) (hb : tn_b w H B C) (hk : k < B) : tn_g w t N (f_go w k C) ∧ tn_b w H B (f_go w k C) := by
  have hB2 := hs.2.2.1.2
  have hp := (hs.2.2.2.2.1 k hk).2.1
  exact ⟨tg_B hg (by omega) (fun x hx => fr_go hx), tb_bo hb hk hB2 (fun b _ hne => ⟨fr_go (by simp only [aB]; omega), fr_go (by simp only [aBc, aB]; omega)⟩) (fr_go (by simp only [aBe, aB]; omega)) (hu_go hp (hb.1 k hk).1) (ro_cg (go_sl (by omega)) (fr_go (by simp only [aBc, aB]; omega)) (hb.1 k hk).2) (go_pl hp).2⟩
theorem lh_n {k : Nat} (hB2 : B ≤ 10) (hg : tn_g w t N C) (hb : tn_b w H B C) (hk : k < B) (hp : ¬ C (aB w k) 3 = 3) : tn_g w t N (f_lh w k C) ∧ tn_b w H B (f_lh w k C) := by
  obtain ⟨h0, h1, h2, e⟩ := (hb.1 k hk).1.2 hp
  have hu := hu_lh (hb.1 k hk).1 hp
  have hne : aB w k ≠ aBc w k := by simp only [aB, aBc]; omega
  have et := hg.1
  rcases lh_sp h1 h2 e with ⟨c, q⟩ | ⟨c, q⟩
  · rw [q] at hu ⊢
    refine ⟨tg_B hg (by omega) (fun x hx => jj_u_ne hx), tb_bo hb hk hB2 (fun b _ hne => ⟨jj_u_ne (by simp only [aB]; omega), jj_u_ne (by simp only [aBc, aB]; omega)⟩) (jj_u_ne (by simp only [aBe, aB]; omega)) hu (ro_cg (jj_u_nk (by decide)) (jj_u_ne (by simp only [aBc, aB]; omega)) (hb.1 k hk).2) (fun e3 => ?_)⟩
    rw [jj_u_nk (by decide)] at e3
    rw [jj_u_nk (by decide)]
    exact ⟨e3, rfl⟩
  · have fo : ∀ x, x ≠ aB w k → x ≠ aBc w k → f_lh w k C x = C x := fun x y1 y2 => fr_lh y1 y2
    have e2 : f_lh w k C (aB w k) 2 = C (aB w k) 2 := by
      rw [q, it_off hne, jj_u_nk (by decide), jj_u_nk (by decide), jj_u_nk (by decide), jj_u_nk (by decide)]
    have e3 : f_lh w k C (aB w k) 3 = 3 := by
      rw [q, it_off hne, jj_u_nk (by decide), jj_u_nk (by decide), jj_u_eq]
    have ec : ∀ g, g < 4 → f_lh w k C (aBc w k) g = 0 := fun g hg => by
      rw [q, it_cz, if_pos hg]
    refine ⟨?_, tb_bo hb hk hB2 (fun b _ hne => ⟨fo _ (by simp only [aB]; omega) (by simp only [aB, aBc]; omega), fo _ (by simp only [aBc, aB]; omega) (by simp only [aBc]; omega)⟩) (fo _ (by simp only [aBe, aB]; omega) (by simp only [aBe, aBc]; omega)) hu ?_ (fun z => ?_)⟩
    · rw [q]
      have hJ : tn_g w t N (jj_u (jj_u (jj_u (jj_u C (aB w k) 1 0) (aB w k) 3 3) (aB w k) 4 (-1)) (aB w k) 7 0) := tg_B (k := k) hg (by omega) (fun x hx => by rw [jj_u_ne hx, jj_u_ne hx, jj_u_ne hx, jj_u_ne hx])
      refine it_in (S := fun J => tn_g w t N J) hJ (N := 4) (fun g y hg hy => ?_) 4 (Nat.le_refl _)
      have eT := hy.2.2.2.2.2.2
      exact tg_cargo (v := 0) hy (by omega) hg nI_0.symm et (by omega)
    · obtain ⟨r, r1, r2, -⟩ := (hb.1 k hk).2
      refine ⟨r, r1, by rw [e2]; exact r2, ?_⟩
      rw [tn_zero (fun g hg => by rw [ec g hg]; rfl)]
      exact Nat.zero_le _
    · rw [e3] at z
      exact absurd z (by decide)
theorem bi_n {k : Nat} (hB2 : B ≤ 10) (hg : tn_g w t N C) (hb : tn_b w H B C) (hk : k < B) : tn_g w t N (f_bi w k H C) ∧ tn_b w H B (f_bi w k H C) := by
  unfold f_bi
  split
  · rename_i c
    exact lh_n hB2 hg hb hk (by rw [c.1]; decide)
  · split
    · rename_i c
      exact lh_n hB2 hg hb hk (by rw [c.1]; decide)
    · exact ⟨hg, hb⟩
theorem se_n {k : Nat} (hs : sf w H M B N C) (hg : tn_g w t N C) (hb : tn_b w H B C) (hk : k < N) : tn_g w t N (f_se w k C) ∧ tn_b w H B (f_se w k C) := by
  have hB2 := hs.2.2.1.2
  have hN2 := hs.2.2.2.1.2
  have hH2 := hs.1.2
  obtain ⟨⟨a, ha, e0⟩, ⟨q, hq, e1⟩, ⟨x, hx, e2⟩, ⟨g, hg4, e3⟩⟩ := hs.2.2.2.2.2 k hk
  have fr : ∀ x, x ≠ aD w k → x ≠ aM w q → x ≠ aM w a → x ≠ aMt w q → x ≠ aMt w a → f_se w k C x = C x := fun x y1 y2 y3 y4 y5 => fr_se y1 (by rw [e1, nv_nI (by omega)]; exact y2) (by rw [e0, nv_nI (by omega)]; exact y3) (by rw [e1, nv_nI (by omega)]; exact y4) (by rw [e0, nv_nI (by omega)]; exact y5)
  refine ⟨?_, tb_cg hb (fun b _ => fr _ (by simp only [aB, aD]; omega) (by simp only [aB, aM]; omega) (by simp only [aB, aM]; omega) (by simp only [aB, aMt]; omega) (by simp only [aB, aMt]; omega)) hB2 (fun b _ => fr _ (by simp only [aBc, aD]; omega) (by simp only [aBc, aM]; omega) (by simp only [aBc, aM]; omega) (by simp only [aBc, aMt]; omega) (by simp only [aBc, aMt]; omega)) (fr _ (by simp only [aBe, aD]; omega) (by simp only [aBe, aM]; omega) (by simp only [aBe, aM]; omega) (by simp only [aBe, aMt]; omega) (by simp only [aBe, aMt]; omega))⟩
  obtain ⟨m, hm, em⟩ := hg.2.2.2.2.2.1 k hk
  have hc : 4 * x + g < 32 := by omega
  obtain ⟨p, hp, ep⟩ := hg.2.1 _ hc
  have et := hg.1
  have eT := hg.2.2.2.2.2.2
  have hmp : m * p ≤ 3000000 := Nat.le_trans (Nat.mul_le_mul hm hp) (by decide)
  rw [se_eq e0 e1 e2 e3 ha hq (by omega) hg4, em, ep, nI_ml]
  split
  · split
    · split
      · exact tg_d6 hg (by omega)
      · rename_i c1
        have hC := tg_C hg hq
        have ec := hg.2.2.1 q hq
        have hle : m * p ≤ nv (C (aM w q) 0) := by
          refine Nat.not_lt.mp (fun z => c1 ?_)
          rw [ec]
          exact nI_lt z (by omega)
        have ed : C (aM w q) 0 - nI (m * p) = nI (nv (C (aM w q) 0) - m * p) := by
          rw [ec, nI_sb hle, nv_nI (by omega)]
        rw [ed]
        have h1 := tg_coin (v := nv (C (aM w q) 0) - m * p) (t' := t) hg hq rfl et (by omega)
        have hu := tC_u (w := w) (C := C) (m := q) (v := nv (C (aM w q) 0) - m * p) hq (by omega)
        have hc2 := tS_cg (w := w) (C := C) (J := jj_u C (aM w q) 0 (nI (nv (C (aM w q) 0) - m * p))) (fun p _ => jj_u_ne (by simp only [aMt, aM]; omega))
        have hk2 := tK_cg (w := w) (C := C) (J := jj_u C (aM w q) 0 (nI (nv (C (aM w q) 0) - m * p))) (fun p _ => jj_u_ne (by simp only [aBc, aM]; omega))
        generalize jj_u C (aM w q) 0 (nI (nv (C (aM w q) 0) - m * p)) = J at h1 hu hc2 hk2 ⊢
        refine tg_d6 (tg_coin (v := nv (J (aM w a) 0) + m * p) h1 ha ?_ et (by omega)) (by omega)
        have hC2 := tg_C h1 ha
        rw [h1.2.2.1 a ha, nI_add, nv_nI (by omega)]
    · rename_i c1
      have hS := tg_S hg hq hc
      have ec := hg.2.2.2.1 q hq _ hc
      have hle : m ≤ nv (C (aMt w q) (4 * x + g)) := by
        refine Nat.not_lt.mp (fun z => c1 ?_)
        rw [ec]
        exact nI_lt z (by omega)
      exact tg_d6 (tg_hd hg hq ha hc rfl hle) (by omega)
  · exact hg
/-- a whole day -/
theorem pd_n (hs : sf w H M B N C) (hk : sk w H M B N C) (hg : tn_g w t N C) (hb : tn_b w H B C) : tn_g w t N (f_pd w H B N d C) ∧ tn_b w H B (f_pd w H B N d C) := by
  have hB2 := hs.2.2.1.2
  have hN2 := hs.2.2.2.1.2
  have a0 : tn_g w t N (f_fr w H d C) ∧ tn_b w H B (f_fr w H d C) := ⟨tg_at (a := aIc w) hg (fun x hx => fr_fr hx) (by simp only [aIc, aPr]; omega) (fun m _ => by simp only [aIc, aM]; omega) (fun m _ => by simp only [aIc, aMt]; omega) (fun b _ => by simp only [aIc, aBc]; omega) (fun q _ => by simp only [aIc, aD]; omega), tb_cg hb (fun b _ => fr_fr (by simp only [aB, aIc]; omega)) hB2 (fun b _ => fr_fr (by simp only [aBc, aIc]; omega)) (fr_fr (by simp only [aBe, aIc]; omega))⟩
  have a1 := it_in (f := f_py w) (S := fun J => (sf w H M B N J ∧ sk w H M B N J) ∧ (tn_g w t N J ∧ tn_b w H B J)) ⟨⟨sf_fr (d := d) hs, sk_fr (d := d) hk⟩, a0⟩ (N := B) (fun k y hk hy => ⟨⟨sf_py hy.1.1 hk, sk_py hy.1.1 hy.1.2 hk⟩, py_n hy.1.1 hy.2.1 hy.2.2 hk⟩) B (Nat.le_refl _)
  have a2 := it_in (f := fun k M => f_bi w k H (f_go w k M)) (S := fun J => (sf w H M B N J ∧ sk w H M B N J) ∧ (tn_g w t N J ∧ tn_b w H B J)) a1 (N := B) (fun k y hk hy => ⟨⟨sf_gb hy.1.1 hk, sk_gb hy.1.1 hy.1.2 hk⟩, by
    have q := go_n hy.1.1 hy.2.1 hy.2.2 hk
    exact bi_n hB2 q.1 q.2 hk⟩) B (Nat.le_refl _)
  have a3 := it_in (f := f_se w) (S := fun J => (sf w H M B N J ∧ sk w H M B N J) ∧ (tn_g w t N J ∧ tn_b w H B J)) a2 (N := N) (fun k y hk hy => ⟨⟨sf_se hy.1.1 hk, sk_se hy.1.1 hy.1.2 hk⟩, se_n hy.1.1 hy.2.1 hy.2.2 hk⟩) N (Nat.le_refl _)
  unfold f_pd
  exact ⟨tg_at (a := aR w) a3.2.1 (fun x hx => jj_u_ne hx) (by simp only [aR, aPr]; omega) (fun m _ => by simp only [aR, aM]; omega) (fun m _ => by simp only [aR, aMt]; omega) (fun b _ => by simp only [aR, aBc]; omega) (fun q _ => by simp only [aR, aD]; omega), tb_cg a3.2.2 (fun b _ => jj_u_ne (by simp only [aB, aR]; omega)) hB2 (fun b _ => jj_u_ne (by simp only [aBc, aR]; omega)) (jj_u_ne (by simp only [aBe, aR]; omega))⟩
end TD
