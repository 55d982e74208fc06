/-! what the class's object keeps to, and each call's keeping of it -/
def tn_c (t H M B N : Nat) (C : jj_I) : Prop := sf 0 H M B N C ∧ sk 0 H M B N C ∧ (∃ d, d ≤ 200 * t ∧ C (aR 0) 0 = nI d) ∧ tn_g 0 t N C ∧ tn_b 0 H B C
section TO
variable {w t H M B N : Nat} {C J : jj_I}
theorem tn_rg {y lo hi : Int32} {a b : Nat} (h : lo ≤ y ∧ y ≤ hi) (h1 : lo = nI a) (h2 : hi = nI b) (ha : a < 2 ^ 31) (hb : b < 2 ^ 31) : ∃ j, a ≤ j ∧ j ≤ b ∧ y = nI j := by
  subst h1
  subst h2
  obtain ⟨j, hj, rfl⟩ := nI_of (x := y) (fun z => nI_pos ha (Int32.lt_of_le_of_lt h.1 z))
  exact ⟨j, (nI_leI ha hj).mp h.1, (nI_leI hj hb).mp h.2, rfl⟩
theorem sf_cg (h : sf w H M B N C) (e1 : J (aR w) 1 = C (aR w) 1) (e2 : J (aW w) = C (aW w)) (e3 : ∀ b, b < 10 → J (aB w b) = C (aB w b)) (e4 : ∀ d, d < 30 → J (aD w d) = C (aD w d)) : sf w H M B N J := by
  obtain ⟨⟨h1, h1'⟩, ⟨h2, h2'⟩, ⟨h3, h3'⟩, ⟨h4, h4'⟩, h5, h6⟩ := h
  exact ⟨⟨by rw [e1]; exact h1, h1'⟩, ⟨by rw [e2]; exact h2, h2'⟩, ⟨by rw [e2]; exact h3, h3'⟩, ⟨by rw [e2]; exact h4, h4'⟩, fun b hb => sfB_cg (e3 b (by omega)) (h5 b hb), fun d hd => sfD_cg (e4 d (by omega)) (h6 d hd)⟩
theorem sk_cg (h : sk w H M B N C) (z : mlZ M B N) (e1 : J (aLd w) = C (aLd w)) (e3 : ∀ b, b < 10 → J (aB w b) = C (aB w b)) (e4 : ∀ d, d < 30 → J (aD w d) = C (aD w d)) : sk w H M B N J := by
  obtain ⟨z1, z2, z3⟩ := z
  obtain ⟨h1, h2, h3⟩ := h
  refine ⟨fun l hl => by rw [e1]; exact h1 l hl, fun b hb => ?_, fun d hd => by rw [e4 d (by omega)]; exact h3 d hd⟩
  have e := e3 b (by omega)
  exact ⟨sfG_cg e (h2 b hb).1, by rw [e]; exact (h2 b hb).2⟩
/-- nothing of it changed -/
theorem tc_cg (h : tn_c t H M B N C) (ht : t + 1 ≤ 512) (ho : ∀ a, a < 72 → a ≠ aWm 0 → a ≠ aIc 0 → J a = C a) : tn_c (t + 1) H M B N J := by
  obtain ⟨hs, hk, ⟨d, d1, d2⟩, hg, hb⟩ := h
  have z := sf_Z hs
  have oB : ∀ b, b < 10 → J (aB 0 b) = C (aB 0 b) := fun b hb => ho _ (by simp only [aB]; omega) (by simp only [aB, aWm]; omega) (by simp only [aB, aIc]; omega)
  have oD : ∀ b, b < 30 → J (aD 0 b) = C (aD 0 b) := fun b hb => ho _ (by simp only [aD]; omega) (by simp only [aD, aWm]; omega) (by simp only [aD, aIc]; omega)
  have oC : ∀ b, b < 10 → J (aBc 0 b) = C (aBc 0 b) := fun b hb => ho _ (by simp only [aBc]; omega) (by simp only [aBc, aWm]; omega) (by simp only [aBc, aIc]; omega)
  have oM : ∀ b, b < 5 → J (aM 0 b) = C (aM 0 b) := fun b hb => ho _ (by simp only [aM]; omega) (by simp only [aM, aWm]; omega) (by simp only [aM, aIc]; omega)
  have oS : ∀ b, b < 5 → J (aMt 0 b) = C (aMt 0 b) := fun b hb => ho _ (by simp only [aMt]; omega) (by simp only [aMt, aWm]; omega) (by simp only [aMt, aIc]; omega)
  exact ⟨sf_cg hs (by rw [ho (aR 0) (by decide) (by decide) (by decide)]) (ho (aW 0) (by decide) (by decide) (by decide)) oB oD, sk_cg hk z (ho (aLd 0) (by decide) (by decide) (by decide)) oB oD,
    ⟨d, by omega, by rw [ho (aR 0) (by decide) (by decide) (by decide)]; exact d2⟩,
    tg_t (tg_cg hg (fun k _ => by rw [ho (aPr 0) (by decide) (by decide) (by decide)]) (fun m hm => by rw [oM m hm]) oS oC (fun d hd => by rw [oD d (by have := z.2.2; omega)])) (by omega) ht,
    tb_cg hb oB z.2.1 oC (ho (aBe 0) (by decide) (by decide) (by decide))⟩
theorem tc_warm {k : Nat} {y : Int32} (h : tn_c t H M B N C) (ht : t + 1 ≤ 512) : tn_c (t + 1) H M B N (jj_u C (aWm 0) k y) := tc_cg h ht (fun a _ h1 _ => jj_u_ne h1)
theorem tc_day (h : tn_c t H M B N C) (hn : N ≤ 30) {a k : Nat} {v : Int32} (e : a ≠ aR 0) : ∃ d, d ≤ 200 * (t + 1) ∧ jj_u C a k v (aR 0) 0 = nI d := by
  obtain ⟨d, d1, d2⟩ := h.2.2.1
  exact ⟨d, by omega, by rw [jj_u_ne (Ne.symm e)]; exact d2⟩
theorem tc_grow {y z : Int32} (h : tn_c t H M B N C) (ht : t + 1 ≤ 512) (hy : 1 ≤ y ∧ y ≤ 9) (hz : 0 ≤ z ∧ z ≤ 5) (hH : H < 8) : tn_c (t + 1) (H + 1) M B N (f_gr 0 H y z C) := by
  obtain ⟨hs, hk, ⟨d, d1, d2⟩, hg, hb⟩ := h
  obtain ⟨z1, z2, z3⟩ := sf_Z hs
  obtain ⟨j, j1, j2, rfl⟩ := tn_rg (a := 1) (b := 9) hy rfl rfl (by decide) (by decide)
  obtain ⟨e, e1, e2, rfl⟩ := tn_rg (a := 0) (b := 5) hz rfl rfl (by decide) (by decide)
  have ho : ∀ a, a ≠ aLd 0 → a ≠ aBe 0 → a ≠ aR 0 → f_gr 0 H (nI j) (nI e) C a = C a := fun a h1 h2 h3 => by
    unfold f_gr
    rw [jj_u_ne h3, jj_u_ne h2]
    split
    · exact jj_u_ne h1
    · rfl
  have oR : f_gr 0 H (nI j) (nI e) C (aR 0) 1 = nI (H + 1) ∧ f_gr 0 H (nI j) (nI e) C (aR 0) 0 = C (aR 0) 0 := by
    unfold f_gr
    rw [jj_u_eq, jj_u_nk (by decide), jj_u_ne (by decide)]
    refine ⟨rfl, ?_⟩
    split
    · rw [jj_u_ne (by decide)]
    · rfl
  have oL : ∀ l, f_gr 0 H (nI j) (nI e) C (aLd 0) l = if 0 < H ∧ l = H - 1 then nI j else C (aLd 0) l := fun l => by
    unfold f_gr
    rw [jj_u_ne (by decide), jj_u_ne (by decide)]
    by_cases c : 0 < H
    · rw [if_pos c]
      by_cases c2 : l = H - 1
      · subst c2; rw [jj_u_eq, if_pos ⟨c, rfl⟩]
      · rw [jj_u_nk c2, if_neg (fun q => c2 q.2)]
    · rw [if_neg c, if_neg (fun q => c q.1)]
  have oE : ∀ q, f_gr 0 H (nI j) (nI e) C (aBe 0) q = if q = H then nI e else C (aBe 0) q := fun q => by
    unfold f_gr
    rw [jj_u_ne (by decide)]
    by_cases c : q = H
    · subst c; rw [jj_u_eq, if_pos rfl]
    · rw [jj_u_nk c, if_neg c]
      split
      · rw [jj_u_ne (by decide)]
      · rfl
  generalize f_gr 0 H (nI j) (nI e) C = J at ho oR oL oE ⊢
  have oB : ∀ b, J (aB 0 b) = C (aB 0 b) := fun b => ho _ (by simp only [aB, aLd]; omega) (by simp only [aB, aBe]; omega) (by simp only [aB, aR]; omega)
  have oD : ∀ b, J (aD 0 b) = C (aD 0 b) := fun b => ho _ (by simp only [aD, aLd]; omega) (by simp only [aD, aBe]; omega) (by simp only [aD, aR]; omega)
  have oC : ∀ b, J (aBc 0 b) = C (aBc 0 b) := fun b => ho _ (by simp only [aBc, aLd]; omega) (by simp only [aBc, aBe]; omega) (by simp only [aBc, aR]; omega)
  have oW : J (aW 0) = C (aW 0) := ho _ (by decide) (by decide) (by decide)
  refine ⟨?_, ?_, ⟨d, by omega, by rw [oR.2]; exact d2⟩, ?_, ?_⟩
  · obtain ⟨⟨h1, h1'⟩, ⟨h2, h2'⟩, ⟨h3, h3'⟩, ⟨h4, h4'⟩, h5, h6⟩ := hs
    refine ⟨⟨oR.1, by omega⟩, ⟨by rw [oW]; exact h2, h2'⟩, ⟨by rw [oW]; exact h3, h3'⟩, ⟨by rw [oW]; exact h4, h4'⟩, fun b hb => ?_, fun d hd => ?_⟩
    · obtain ⟨q1, q2, q3, q4, ⟨g, g1, g2⟩⟩ := h5 b hb
      unfold sfB
      rw [oB b]
      exact ⟨q1, q2, fun c => by obtain ⟨x, x1, x2⟩ := q3 c; exact ⟨x, by omega, x2⟩, fun c => by obtain ⟨x, x1, x2⟩ := q4 c; exact ⟨x, by omega, x2⟩, ⟨g, by omega, g2⟩⟩
    · obtain ⟨q1, q2, ⟨x, x1, x2⟩, q4⟩ := h6 d hd
      unfold sfD
      rw [oD d]
      exact ⟨q1, q2, ⟨x, by omega, x2⟩, q4⟩
  · obtain ⟨k1, k2, k3⟩ := hk
    refine ⟨fun l hl => ?_, fun b hb => ⟨sfG_cg (oB b) (k2 b hb).1, by rw [oB b]; exact (k2 b hb).2⟩, fun d hd => by rw [oD d]; exact k3 d hd⟩
    rw [oL l]
    by_cases c : 0 < H ∧ l = H - 1
    · rw [if_pos c]; exact ⟨j, j1, j2, rfl⟩
    · rw [if_neg c]; exact k1 l (by omega)
  · exact tg_t (tg_cg hg (fun k _ => by rw [ho (aPr 0) (by decide) (by decide) (by decide)]) (fun m _ => by rw [ho _ (by simp only [aM, aLd]; omega) (by simp only [aM, aBe]; omega) (by simp only [aM, aR]; omega)]) (fun m _ => ho _ (by simp only [aMt, aLd]; omega) (by simp only [aMt, aBe]; omega) (by simp only [aMt, aR]; omega)) (fun b _ => oC b) (fun d _ => by rw [oD d])) (by omega) ht
  · obtain ⟨b1, b2, b3⟩ := hb
    refine ⟨fun b hb => ⟨hu_cg (by rw [oB b]) (by rw [oB b]) (b1 b hb).1, ro_cg (by rw [oB b]) (oC b) (b1 b hb).2⟩, fun b q1 q2 => fb_cg (oB b) (oC b) (b2 b q1 q2), fun q hq => ?_⟩
    have eq : tn_ts (tn_q 0 q J) B = tn_ts (tn_q 0 q C) B := tn_cg (fun b _ => by unfold tn_q; rw [oB b])
    rw [eq, oE q]
    by_cases c : q = H
    · subst c
      rw [if_pos rfl]
      refine ⟨e, e2, rfl, ?_⟩
      rw [tn_zero (fun b hb => ?_)]
      · exact Nat.zero_le _
      · unfold tn_q
        rw [if_neg (fun c => ?_)]
        obtain ⟨-, -, q3, -⟩ := hs.2.2.2.2.1 b hb
        obtain ⟨x, x1, x2⟩ := q3 (by rw [c.1]; decide)
        have := jm_n (x2.symm.trans c.2) (by omega) (by omega)
        omega
    · rw [if_neg c]
      exact b3 q (by omega)
theorem tc_price {c : Nat} {y : Int32} (h : tn_c t H M B N C) (ht : t + 1 ≤ 512) (hy : 0 ≤ y ∧ y ≤ 50) : tn_c (t + 1) H M B N (jj_u C (aPr 0) c y) := by
  obtain ⟨hs, hk, hd, hg, hb⟩ := id h
  have z := sf_Z hs
  obtain ⟨p, p1, p2, rfl⟩ := tn_rg (a := 0) (b := 50) hy rfl rfl (by decide) (by decide)
  have ho : ∀ a, a ≠ aPr 0 → jj_u C (aPr 0) c (nI p) a = C a := fun a e => jj_u_ne e
  refine ⟨sf_cg hs (by rw [ho _ (by decide)]) (ho _ (by decide)) (fun b _ => ho _ (by simp only [aB, aPr]; omega)) (fun b _ => ho _ (by simp only [aD, aPr]; omega)), sk_cg hk z (ho _ (by decide)) (fun b _ => ho _ (by simp only [aB, aPr]; omega)) (fun b _ => ho _ (by simp only [aD, aPr]; omega)), tc_day h z.2.2 (by decide), ?_, tb_cg hb (fun b _ => ho _ (by simp only [aB, aPr]; omega)) z.2.1 (fun b _ => ho _ (by simp only [aBc, aPr]; omega)) (ho _ (by decide))⟩
  obtain ⟨a0, a1, a2, a3, a4, a5, a6⟩ := hg
  refine ⟨ht, fun k hk => ?_, fun m hm => ?_, fun m hm k hk => ?_, fun b hb g hg => ?_, fun d hd => ?_, ?_⟩
  · by_cases e : k = c
    · subst e; rw [jj_u_eq]; exact ⟨p, p2, rfl⟩
    · rw [jj_u_nk e]; exact a1 k hk
  · rw [ho _ (by simp only [aM, aPr]; omega)]; exact a2 m hm
  · rw [ho _ (by simp only [aMt, aPr]; omega)]; exact a3 m hm k hk
  · rw [ho _ (by simp only [aBc, aPr]; omega)]; exact a4 b hb g hg
  · rw [ho _ (by simp only [aD, aPr]; omega)]; exact a5 d hd
  · rw [tS_cg (C := C) (fun p _ => ho _ (by simp only [aMt, aPr]; omega)), tK_cg (C := C) (fun p _ => ho _ (by simp only [aBc, aPr]; omega)), tC_cg (C := C) (fun p _ => by rw [ho _ (by simp only [aM, aPr]; omega)])]
    omega
/-- only goods and coins of merchants changed -/
theorem tc_mer (h : tn_c t H M B N C) (ho : ∀ a, (∀ m, m < 5 → a ≠ aM 0 m ∧ a ≠ aMt 0 m) → J a = C a) (hg : tn_g 0 (t + 1) N J) : tn_c (t + 1) H M B N J := by
  obtain ⟨hs, hk, ⟨d, d1, d2⟩, -, hb⟩ := id h
  have z := sf_Z hs
  have oB : ∀ b, b < 10 → J (aB 0 b) = C (aB 0 b) := fun b _ => ho _ (fun m _ => by simp only [aB, aM, aMt]; omega)
  have oD : ∀ b, b < 30 → J (aD 0 b) = C (aD 0 b) := fun b _ => ho _ (fun m _ => by simp only [aD, aM, aMt]; omega)
  have o9 : ∀ a, a < 12 → J a = C a := fun a ha => ho _ (fun m _ => by simp only [aM, aMt]; omega)
  exact ⟨sf_cg hs (by rw [o9 _ (by decide)]) (o9 _ (by decide)) oB oD, sk_cg hk z (o9 _ (by decide)) oB oD, ⟨d, by omega, by rw [o9 _ (by decide)]; exact d2⟩, hg, tb_cg hb oB z.2.1 (fun b _ => ho _ (fun m _ => by simp only [aBc, aM, aMt]; omega)) (o9 _ (by decide))⟩
theorem tc_bring {m c : Nat} {y : Int32} (h : tn_c t H M B N C) (ht : t + 1 ≤ 512) (hm : m < 5) (hc : c < 32) (hy : 1 ≤ y ∧ y ≤ 100) : tn_c (t + 1) H M B N (jj_u C (aMt 0 m) c (C (aMt 0 m) c + y)) := by
  obtain ⟨j, j1, j2, rfl⟩ := tn_rg (a := 1) (b := 100) hy rfl rfl (by decide) (by decide)
  have hg := h.2.2.2.1
  have hS := tg_S hg hm hc
  have eT := hg.2.2.2.2.2.2
  refine tc_mer h (fun a ha => jj_u_ne (ha m hm).2) (tg_stock (v := nv (C (aMt 0 m) c) + j) hg hm hc ?_ ht (by omega))
  rw [hg.2.2.2.1 m hm c hc, nI_add, nv_nI (by omega)]
theorem tc_sell {m c : Nat} {y : Int32} (h : tn_c t H M B N C) (ht : t + 1 ≤ 512) (hm : m < 5) (hc : c < 32) (hy : 1 ≤ y) (he : y ≤ C (aMt 0 m) c) : tn_c (t + 1) H M B N (f_sell m c y C) := by
  have hg := h.2.2.2.1
  have hS := tg_S hg hm hc
  have hC := tg_C hg hm
  have es := hg.2.2.2.1 m hm c hc
  obtain ⟨j, j1, j2, rfl⟩ := tn_rg (a := 1) (b := nv (C (aMt 0 m) c)) ⟨hy, he⟩ rfl es (by decide) (by omega)
  obtain ⟨p, p1, ep⟩ := hg.2.1 c hc
  have eT := hg.2.2.2.2.2.2
  have e1 : C (aMt 0 m) c - nI j = nI (nv (C (aMt 0 m) c) - j) := by rw [es, nI_sb j2, nv_nI (by omega)]
  have hjp : j * p ≤ 50 * j := by rw [Nat.mul_comm]; exact Nat.mul_le_mul_right j p1
  unfold f_sell
  dsimp only
  rw [e1, jj_u_ne (show aPr 0 ≠ aMt 0 m by simp only [aPr, aMt]; omega), jj_u_ne (show aM 0 m ≠ aMt 0 m by simp only [aM, aMt]; omega), ep, nI_ml]
  have hu := tS_u (w := 0) (C := C) (m := m) (k := c) (v := nv (C (aMt 0 m) c) - j) hm hc (by omega)
  have h1 : tn_g 0 t N (jj_u C (aMt 0 m) c (nI (nv (C (aMt 0 m) c) - j))) := tg_stock hg hm hc rfl hg.1 (by omega)
  have hc2 := tC_cg (w := 0) (C := C) (J := jj_u C (aMt 0 m) c (nI (nv (C (aMt 0 m) c) - j))) (fun p _ => by rw [jj_u_ne (by simp only [aMt, aM]; omega)])
  have hk2 := tK_cg (w := 0) (C := C) (J := jj_u C (aMt 0 m) c (nI (nv (C (aMt 0 m) c) - j))) (fun p _ => jj_u_ne (by simp only [aBc, aMt]; omega))
  have ec : jj_u C (aMt 0 m) c (nI (nv (C (aMt 0 m) c) - j)) (aM 0 m) 0 = C (aM 0 m) 0 := by rw [jj_u_ne (by simp only [aM, aMt]; omega)]
  refine tc_mer h (fun a ha => by rw [jj_u_ne (ha m hm).1, jj_u_ne (ha m hm).2]) (tg_coin (v := nv (C (aM 0 m) 0) + j * p) h1 hm ?_ ht ?_)
  · rw [hg.2.2.1 m hm, nI_add, nv_nI (by omega)]
  · rw [hc2, hk2, ec]; omega
end TO
