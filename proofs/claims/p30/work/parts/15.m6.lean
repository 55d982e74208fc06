/-! days ahead: a copy's numbers, and the calls that look ahead -/
theorem cp_off {M B N a : Nat} {I : jj_I} (hM : M ≤ 5) (hB : B ≤ 10) (hN : N ≤ 30) (h : a < 72 ∨ 142 ≤ a) : f_cpW M B N I a = I a := by
  unfold f_cpW
  rw [fr_it (fun j J hj => fr_cpD (by simp only [aD]; omega)), fr_it (fun j J hj => fr_cpB (by simp only [aB]; omega) (by simp only [aBc]; omega)), fr_it (fun j J hj => fr_cpM (by simp only [aM]; omega) (by simp only [aMt]; omega)), fr_cf (by simp only [aW]; omega), fr_cf (by simp only [aW]; omega), fr_cf (by simp only [aW]; omega)]
  unfold f_cpR
  rw [fr_cr (by simp only [aPr]; omega), fr_cr (by simp only [aBe]; omega), fr_cr (by simp only [aIc]; omega), fr_cr (by simp only [aLd]; omega), fr_cr (by simp only [aWm]; omega), fr_cf (by simp only [aR]; omega), fr_cf (by simp only [aR]; omega)]
theorem cr_at {a b len k : Nat} {I : jj_I} (h : k < len) : f_cr a b len I b k = I a k := by
  unfold f_cr
  rw [jj_uR_eq, pk_cpy_in (Nat.zero_le _) (by omega)]
  simp
theorem cf_at {a b k : Nat} {I : jj_I} : f_cf a b k I b k = I a k := jj_u_eq
theorem cf_nk {a b k j : Nat} {I : jj_I} (h : j ≠ k) : f_cf a b k I b j = I b j := jj_u_nk h
theorem cpR_0 {I : jj_I} {a : Nat} (h : a < 72 ∨ 142 ≤ a) : f_cpR I a = I a := by
  unfold f_cpR
  rw [fr_cr (by simp only [aPr]; omega), fr_cr (by simp only [aBe]; omega), fr_cr (by simp only [aIc]; omega), fr_cr (by simp only [aLd]; omega), fr_cr (by simp only [aWm]; omega), fr_cf (by simp only [aR]; omega), fr_cf (by simp only [aR]; omega)]
theorem cp_B {M B N b s : Nat} {I : jj_I} (hM : M ≤ 5) (hN : N ≤ 30) (hB2 : B ≤ 10) (hb : b < B) (hs : s < 8) : f_cpW M B N I (aB 1 b) s = I (aB 0 b) s := by
  unfold f_cpW
  rw [fr_it (fun j J hj => fr_cpD (by simp only [aD, aB]; omega)), it_pick hb (fun j J hj hne => fr_cpB (by simp only [aB]; omega) (by simp only [aB, aBc]; omega))]
  have e : ∀ k, k ≤ B → it f_cpB (it f_cpM (f_cf (aW 0) (aW 1) 3 (f_cf (aW 0) (aW 1) 2 (f_cf (aW 0) (aW 1) 1 (f_cpR I)))) M) k (aB 0 b) = I (aB 0 b) := fun k hk => by
    rw [fr_it (fun j J hj => fr_cpB (by simp only [aB]; omega) (by simp only [aB, aBc]; omega)), fr_it (fun j J hj => fr_cpM (by simp only [aB, aM]; omega) (by simp only [aB, aMt]; omega)), fr_cf (by simp only [aW, aB]; omega), fr_cf (by simp only [aW, aB]; omega), fr_cf (by simp only [aW, aB]; omega), cpR_0 (by simp only [aB]; omega)]
  have e2 := e b (by omega)
  generalize it f_cpB (it f_cpM (f_cf (aW 0) (aW 1) 3 (f_cf (aW 0) (aW 1) 2 (f_cf (aW 0) (aW 1) 1 (f_cpR I)))) M) b = J at e2
  rw [← e2]
  unfold f_cpB
  rw [fr_cr (by simp only [aB, aBc]; omega)]
  have n1 : aB 0 b ≠ aB 1 b := by simp only [aB]; omega
  have hs' : s = 0 ∨ s = 1 ∨ s = 2 ∨ s = 3 ∨ s = 4 ∨ s = 5 ∨ s = 6 ∨ s = 7 := by omega
  rcases hs' with rfl | rfl | rfl | rfl | rfl | rfl | rfl | rfl <;> simp [f_cf, jj_u, n1]
theorem cp_Bc {M B N b g : Nat} {I : jj_I} (hM : M ≤ 5) (hN : N ≤ 30) (hB2 : B ≤ 10) (hb : b < B) (hg : g < 4) : f_cpW M B N I (aBc 1 b) g = I (aBc 0 b) g := by
  unfold f_cpW
  rw [fr_it (fun j J hj => fr_cpD (by simp only [aD, aBc]; omega)), it_pick hb (fun j J hj hne => fr_cpB (by simp only [aB, aBc]; omega) (by simp only [aBc]; omega))]
  have e : ∀ k, k ≤ B → it f_cpB (it f_cpM (f_cf (aW 0) (aW 1) 3 (f_cf (aW 0) (aW 1) 2 (f_cf (aW 0) (aW 1) 1 (f_cpR I)))) M) k (aBc 0 b) = I (aBc 0 b) := fun k hk => by
    rw [fr_it (fun j J hj => fr_cpB (by simp only [aB, aBc]; omega) (by simp only [aBc]; omega)), fr_it (fun j J hj => fr_cpM (by simp only [aBc, aM]; omega) (by simp only [aBc, aMt]; omega)), fr_cf (by simp only [aW, aBc]; omega), fr_cf (by simp only [aW, aBc]; omega), fr_cf (by simp only [aW, aBc]; omega), cpR_0 (by simp only [aBc]; omega)]
  have e2 := e b (by omega)
  generalize it f_cpB (it f_cpM (f_cf (aW 0) (aW 1) 3 (f_cf (aW 0) (aW 1) 2 (f_cf (aW 0) (aW 1) 1 (f_cpR I)))) M) b = J at e2
  unfold f_cpB
  rw [cr_at hg]
  have n1 : aBc 0 b ≠ aB 1 b := by simp only [aB, aBc]; omega
  rw [fr_cf n1, fr_cf n1, fr_cf n1, fr_cf n1, fr_cf n1, fr_cf n1, fr_cf n1, fr_cf n1, e2]
theorem cp_M {M B N m : Nat} {I : jj_I} (hM : M ≤ 5) (hN : N ≤ 30) (hB2 : B ≤ 10) (hm : m < M) : f_cpW M B N I (aM 1 m) 0 = I (aM 0 m) 0 := by
  unfold f_cpW
  rw [fr_it (fun j J hj => fr_cpD (by simp only [aD, aM]; omega)), fr_it (fun j J hj => fr_cpB (by simp only [aB, aM]; omega) (by simp only [aBc, aM]; omega)), it_pick hm (fun j J hj hne => fr_cpM (by simp only [aM]; omega) (by simp only [aM, aMt]; omega))]
  have e : ∀ k, k ≤ M → it f_cpM (f_cf (aW 0) (aW 1) 3 (f_cf (aW 0) (aW 1) 2 (f_cf (aW 0) (aW 1) 1 (f_cpR I)))) k (aM 0 m) = I (aM 0 m) := fun k hk => by
    rw [fr_it (fun j J hj => fr_cpM (by simp only [aM]; omega) (by simp only [aM, aMt]; omega)), fr_cf (by simp only [aW, aM]; omega), fr_cf (by simp only [aW, aM]; omega), fr_cf (by simp only [aW, aM]; omega), cpR_0 (by simp only [aM]; omega)]
  have e2 := e m (by omega)
  generalize it f_cpM (f_cf (aW 0) (aW 1) 3 (f_cf (aW 0) (aW 1) 2 (f_cf (aW 0) (aW 1) 1 (f_cpR I)))) m = J at e2
  unfold f_cpM
  rw [fr_cr (by simp only [aM, aMt]; omega), cf_at, e2]
theorem cp_Mt {M B N m c : Nat} {I : jj_I} (hM : M ≤ 5) (hN : N ≤ 30) (hB2 : B ≤ 10) (hm : m < M) (hc : c < 32) : f_cpW M B N I (aMt 1 m) c = I (aMt 0 m) c := by
  unfold f_cpW
  rw [fr_it (fun j J hj => fr_cpD (by simp only [aD, aMt]; omega)), fr_it (fun j J hj => fr_cpB (by simp only [aB, aMt]; omega) (by simp only [aBc, aMt]; omega)), it_pick hm (fun j J hj hne => fr_cpM (by simp only [aM, aMt]; omega) (by simp only [aMt]; omega))]
  have e : ∀ k, k ≤ M → it f_cpM (f_cf (aW 0) (aW 1) 3 (f_cf (aW 0) (aW 1) 2 (f_cf (aW 0) (aW 1) 1 (f_cpR I)))) k (aMt 0 m) = I (aMt 0 m) := fun k hk => by
    rw [fr_it (fun j J hj => fr_cpM (by simp only [aM, aMt]; omega) (by simp only [aMt]; omega)), fr_cf (by simp only [aW, aMt]; omega), fr_cf (by simp only [aW, aMt]; omega), fr_cf (by simp only [aW, aMt]; omega), cpR_0 (by simp only [aMt]; omega)]
  have e2 := e m (by omega)
  generalize it f_cpM (f_cf (aW 0) (aW 1) 3 (f_cf (aW 0) (aW 1) 2 (f_cf (aW 0) (aW 1) 1 (f_cpR I)))) m = J at e2
  unfold f_cpM
  rw [cr_at hc, fr_cf (by simp only [aM, aMt]; omega), e2]
theorem cp_D {M B N d s : Nat} {I : jj_I} (hM : M ≤ 5) (hN : N ≤ 30) (hB2 : B ≤ 10) (hd : d < N) (hs : s < 7) : f_cpW M B N I (aD 1 d) s = I (aD 0 d) s := by
  unfold f_cpW
  rw [it_pick hd (fun j J hj hne => fr_cpD (by simp only [aD]; omega))]
  have e : ∀ k, k ≤ N → it f_cpD (it f_cpB (it f_cpM (f_cf (aW 0) (aW 1) 3 (f_cf (aW 0) (aW 1) 2 (f_cf (aW 0) (aW 1) 1 (f_cpR I)))) M) B) k (aD 0 d) = I (aD 0 d) := fun k hk => by
    rw [fr_it (fun j J hj => fr_cpD (by simp only [aD]; omega)), fr_it (fun j J hj => fr_cpB (by simp only [aB, aD]; omega) (by simp only [aD, aBc]; omega)), fr_it (fun j J hj => fr_cpM (by simp only [aD, aM]; omega) (by simp only [aD, aMt]; omega)), fr_cf (by simp only [aW, aD]; omega), fr_cf (by simp only [aW, aD]; omega), fr_cf (by simp only [aW, aD]; omega), cpR_0 (by simp only [aD]; omega)]
  have e2 := e d (by omega)
  generalize it f_cpD (it f_cpB (it f_cpM (f_cf (aW 0) (aW 1) 3 (f_cf (aW 0) (aW 1) 2 (f_cf (aW 0) (aW 1) 1 (f_cpR I)))) M) B) d = J at e2
  rw [← e2]
  unfold f_cpD
  have n1 : aD 0 d ≠ aD 1 d := by simp only [aD]; omega
  have hs' : s = 0 ∨ s = 1 ∨ s = 2 ∨ s = 3 ∨ s = 4 ∨ s = 5 ∨ s = 6 := by omega
  rcases hs' with rfl | rfl | rfl | rfl | rfl | rfl | rfl <;> simp [f_cf, f_op, jj_u, n1]
theorem cp_1 {M B N x : Nat} {I : jj_I} (hM : M ≤ 5) (hN : N ≤ 30) (hB2 : B ≤ 10) (h : 73 ≤ x ∧ x ≤ 78) : f_cpW M B N I x = f_cpR I x := by
  unfold f_cpW
  rw [fr_it (fun j J hj => fr_cpD (by simp only [aD]; omega)), fr_it (fun j J hj => fr_cpB (by simp only [aB]; omega) (by simp only [aBc]; omega)), fr_it (fun j J hj => fr_cpM (by simp only [aM]; omega) (by simp only [aMt]; omega)), fr_cf (by simp only [aW]; omega), fr_cf (by simp only [aW]; omega), fr_cf (by simp only [aW]; omega)]
theorem cpR_R {I : jj_I} : f_cpR I (aR 1) 0 = I (aR 0) 0 ∧ f_cpR I (aR 1) 1 = I (aR 0) 1 := by
  unfold f_cpR
  rw [fr_cr (by decide), fr_cr (by decide), fr_cr (by decide), fr_cr (by decide), fr_cr (by decide)]
  exact ⟨by rw [cf_nk (by decide), cf_at], by rw [cf_at, fr_cf (by decide)]⟩
theorem cpR_Wm {I : jj_I} {k : Nat} (h : k < 40) : f_cpR I (aWm 1) k = I (aWm 0) k := by
  unfold f_cpR
  rw [fr_cr (by decide), fr_cr (by decide), fr_cr (by decide), fr_cr (by decide), cr_at h, fr_cf (by decide), fr_cf (by decide)]
theorem cpR_Ld {I : jj_I} {k : Nat} (h : k < 7) : f_cpR I (aLd 1) k = I (aLd 0) k := by
  unfold f_cpR
  rw [fr_cr (by decide), fr_cr (by decide), fr_cr (by decide), cr_at h, fr_cr (by decide), fr_cf (by decide), fr_cf (by decide)]
theorem cpR_Ic {I : jj_I} {k : Nat} (h : k < 7) : f_cpR I (aIc 1) k = I (aIc 0) k := by
  unfold f_cpR
  rw [fr_cr (by decide), fr_cr (by decide), cr_at h, fr_cr (by decide), fr_cr (by decide), fr_cf (by decide), fr_cf (by decide)]
theorem cpR_Be {I : jj_I} {k : Nat} (h : k < 8) : f_cpR I (aBe 1) k = I (aBe 0) k := by
  unfold f_cpR
  rw [fr_cr (by decide), cr_at h, fr_cr (by decide), fr_cr (by decide), fr_cr (by decide), fr_cf (by decide), fr_cf (by decide)]
theorem cpR_Pr {I : jj_I} {k : Nat} (h : k < 32) : f_cpR I (aPr 1) k = I (aPr 0) k := by
  unfold f_cpR
  rw [cr_at h, fr_cr (by decide), fr_cr (by decide), fr_cr (by decide), fr_cr (by decide), fr_cf (by decide), fr_cf (by decide)]
theorem cp_W {M B N s : Nat} {I : jj_I} (hM : M ≤ 5) (hN : N ≤ 30) (hB2 : B ≤ 10) (hs : s = 1 ∨ s = 2 ∨ s = 3) : f_cpW M B N I (aW 1) s = I (aW 0) s := by
  unfold f_cpW
  rw [fr_it (fun j J hj => fr_cpD (by simp only [aW, aD]; omega)), fr_it (fun j J hj => fr_cpB (by simp only [aW, aB]; omega) (by simp only [aW, aBc]; omega)), fr_it (fun j J hj => fr_cpM (by simp only [aW, aM]; omega) (by simp only [aW, aMt]; omega))]
  have e : f_cpR I (aW 0) = I (aW 0) := cpR_0 (by decide)
  rcases hs with rfl | rfl | rfl <;> simp [f_cf, jj_u, aW] <;> simpa [aW] using congrFun e _
theorem sf_cp {H M B N : Nat} {I : jj_I} (hs : sf 0 H M B N I) : sf 1 H M B N (f_cpW M B N I) := by
  obtain ⟨⟨h1, h1'⟩, ⟨h2, h2'⟩, ⟨h3, h3'⟩, ⟨h4, h4'⟩, h5, h6⟩ := hs
  refine ⟨⟨by rw [cp_1 h2' h4' h3' (by decide), cpR_R.2]; exact h1, h1'⟩, ⟨by rw [cp_W h2' h4' h3' (Or.inl rfl)]; exact h2, h2'⟩, ⟨by rw [cp_W h2' h4' h3' (Or.inr (Or.inl rfl))]; exact h3, h3'⟩, ⟨by rw [cp_W h2' h4' h3' (Or.inr (Or.inr rfl))]; exact h4, h4'⟩, fun b hb => ?_, fun d hd => ?_⟩
  · have := h5 b hb
    unfold sfB at this ⊢
    rw [cp_B h2' h4' h3' hb (by omega), cp_B h2' h4' h3' hb (by omega), cp_B h2' h4' h3' hb (by omega), cp_B h2' h4' h3' hb (by omega), cp_B h2' h4' h3' hb (by omega)]
    exact this
  · have := h6 d hd
    unfold sfD at this ⊢
    rw [cp_D h2' h4' h3' hd (by omega), cp_D h2' h4' h3' hd (by omega), cp_D h2' h4' h3' hd (by omega), cp_D h2' h4' h3' hd (by omega)]
    exact this
theorem pd_off {w H M B N d a : Nat} {I : jj_I} (hs : sf w H M B N I) (hw : w < 2) (h : a < 2 + 70 * w ∨ 72 + 70 * w ≤ a) : f_pd w H B N d I a = I a := by
  have hB2 := hs.2.2.1.2
  have hN2 := hs.2.2.2.1.2
  unfold f_pd
  try dsimp only
  rw [jj_u_ne (by simp only [aR]; omega)]
  have s1 : sf w H M B N (f_fr w H d I) := sf_fr hs
  have s2 := it_in (f := f_py w) (S := fun J => sf w H M B N J ∧ J a = I a) ⟨s1, fr_fr (by simp only [aIc]; omega)⟩ (N := B) (fun k y hk hy => ⟨sf_py hy.1 hk, by
    obtain ⟨⟨o, ho, eo⟩, -⟩ := hy.1.2.2.2.2.1 k hk
    rw [fr_py (by simp only [aB]; omega) (by rw [eo, nv_nI (by omega)]; simp only [aM]; omega)]
    exact hy.2⟩) B (Nat.le_refl _)
  have s3 := it_in (f := fun k M => f_bi w k H (f_go w k M)) (S := fun J => sf w H M B N J ∧ J a = I a) s2 (N := B) (fun k y hk hy => ⟨sf_gb hy.1 hk, by
    rw [fr_bi (by simp only [aB]; omega) (by simp only [aBc]; omega), fr_go (by simp only [aB]; omega)]
    exact hy.2⟩) B (Nat.le_refl _)
  exact (it_in (f := f_se w) (S := fun J => sf w H M B N J ∧ J a = I a) s3 (N := N) (fun k y hk hy => ⟨sf_se hy.1 hk, by
    obtain ⟨⟨o, ho, eo⟩, ⟨q, hq, eq⟩, -⟩ := hy.1.2.2.2.2.2 k hk
    rw [fr_se (by simp only [aD]; omega) (by rw [eq, nv_nI (by omega)]; simp only [aM]; omega) (by rw [eo, nv_nI (by omega)]; simp only [aM]; omega) (by rw [eq, nv_nI (by omega)]; simp only [aMt]; omega) (by rw [eo, nv_nI (by omega)]; simp only [aMt]; omega)]
    exact hy.2⟩) N (Nat.le_refl _)).2
theorem pd_dy {w H M B N d : Nat} {I : jj_I} (hs : sf w H M B N I) (hw : w < 2) (hd : I (aR w) 0 = nI d) : f_pd w H B N d I (aR w) 0 = nI (d + 1) := by
  have hB2 := hs.2.2.1.2
  have hN2 := hs.2.2.2.1.2
  unfold f_pd
  try dsimp only
  rw [jj_u_eq]
  have s2 := it_in (f := f_py w) (S := fun J => sf w H M B N J ∧ J (aR w) = I (aR w)) ⟨sf_fr (d := d) hs, fr_fr (by simp only [aR, aIc]; omega)⟩ (N := B) (fun k y hk hy => ⟨sf_py hy.1 hk, by
    obtain ⟨⟨o, ho, eo⟩, -⟩ := hy.1.2.2.2.2.1 k hk
    rw [fr_py (by simp only [aR, aB]; omega) (by rw [eo, nv_nI (by omega)]; simp only [aR, aM]; omega)]
    exact hy.2⟩) B (Nat.le_refl _)
  have s3 := it_in (f := fun k M => f_bi w k H (f_go w k M)) (S := fun J => sf w H M B N J ∧ J (aR w) = I (aR w)) s2 (N := B) (fun k y hk hy => ⟨sf_gb hy.1 hk, by
    rw [fr_bi (by simp only [aR, aB]; omega) (by simp only [aR, aBc]; omega), fr_go (by simp only [aR, aB]; omega)]
    exact hy.2⟩) B (Nat.le_refl _)
  have s4 := (it_in (f := f_se w) (S := fun J => sf w H M B N J ∧ J (aR w) = I (aR w)) s3 (N := N) (fun k y hk hy => ⟨sf_se hy.1 hk, by
    obtain ⟨⟨o, ho, eo⟩, ⟨q, hq, eq⟩, -⟩ := hy.1.2.2.2.2.2 k hk
    rw [fr_se (by simp only [aR, aD]; omega) (by rw [eq, nv_nI (by omega)]; simp only [aR, aM]; omega) (by rw [eo, nv_nI (by omega)]; simp only [aR, aM]; omega) (by rw [eq, nv_nI (by omega)]; simp only [aR, aMt]; omega) (by rw [eo, nv_nI (by omega)]; simp only [aR, aMt]; omega)]
    exact hy.2⟩) N (Nat.le_refl _)).2
  rw [s4, hd, nI_1]
/-- k days from the day d on -/
def f_ds (w H B N d : Nat) (I : jj_I) (k : Nat) : jj_I := it (fun j J => f_pd w H B N (d + j) J) I k
theorem ds_ok {w H M B N d : Nat} {I : jj_I} (hs : sf w H M B N I) (hw : w < 2) (hd : I (aR w) 0 = nI d) : ∀ k, sf w H M B N (f_ds w H B N d I k) ∧ f_ds w H B N d I k (aR w) 0 = nI (d + k) ∧ ∀ a, (a < 2 + 70 * w ∨ 72 + 70 * w ≤ a) → f_ds w H B N d I k a = I a
  | 0 => ⟨hs, hd, fun _ _ => rfl⟩
  | k + 1 => by
    obtain ⟨h1, h2, h3⟩ := ds_ok hs hw hd k
    exact ⟨sf_pd h1, pd_dy h1 hw h2, fun a ha => (pd_off h1 hw ha).trans (h3 a ha)⟩
/-- the ice of a leg, k days on -/
def f_ice (l d : Nat) (I : jj_I) (k : Nat) : Int32 := it (fun j x => f_ib x (I (aWm 0) ((d + j) % 40))) (I (aIc 0) l) k
def g_op (l d : Nat) (I : jj_I) (k : Nat) : Option Int32 := if f_ice l d I k ≤ 10 then some (nI k) else none
def g_ar (H M B N b d : Nat) (I : jj_I) (k : Nat) : Option Int32 := let J := f_ds 1 H B N d (f_cpW M B N I) k; if J (aB 1 b) 3 = 3 then some (-1) else if (J (aB 1 b) 3 = 0 ∨ J (aB 1 b) 3 = 1) ∧ J (aB 1 b) 4 = J (aB 1 b) 6 then some (nI k) else none
def offT (a : Nat) : Prop := a < 72 ∨ 142 ≤ a
set_option maxHeartbeats 4000000 in
set_option maxRecDepth 100000 in
theorem c_pass_ok {l : Launch} (hfl : l.stackTraces = false) {D : jj_D} {n : Nat} {K : jj_K} {I : jj_I} {P : jj_P} {G : jj_G} (hly : ly K P) {H M B N d : Nat} {y : Nat} (hs : sf 0 H M B N I) (hd : I (aR 0) 0 = nI d) (hd2 : d < 2000000000) (h_y : 1 ≤ y ∧ y ≤ 200) :
    jj_Met l D yX5_pass (jj_ws yX5_pass cX5_pass 4 (some .int)) { frames := 7, cells := 0, slots := 0, locals := 112 } [.ref 1, .int (nI y)] n K I P G (jj_R (some (.int (sm (q_bi 0 3 (f_ds 0 H B N d I y)) B - sm (q_bi 0 3 I) B))) (n) (K) (f_ds 0 H B N d I y) (P) (G)) jj_noX := by
  refine jj_of hfl (by decide +kernel) [some (.ref 1), some (.int (nI y)), none, none] rfl rfl ?_
  intro X hXl hX hSt
  have hH := hs.1.1
  have hH2 := hs.1.2
  have hM := hs.2.1.1
  have hM2 := hs.2.1.2
  have hB := hs.2.2.1.1
  have hB2 := hs.2.2.1.2
  have hN := hs.2.2.2.1.1
  have hN2 := hs.2.2.2.1.2
  have dk := ds_ok hs (by omega) hd
  refine jr_iload_n hX dX5_pass_0 rfl ?_
  refine jr_iconst (v := 1) hX dX5_pass_1 (by decide) ?_
  refine jr_sipush (v := 200) hX dX5_pass_2 (by decide) ?_
  refine jr_void (jr_runS hX hSt kM_X5_33 (c_needNumber_ok (jj_fl hX) (show nI 1 ≤ nI y ∧ nI y ≤ nI 200 from ⟨nI_le h_y.1 (by omega), nI_le h_y.2 (by omega)⟩)) rfl rfl dX5_pass_5 rfl ⟨jj_b1 rfl, jj_b1 rfl⟩ rfl) ?_
  refine jr_aload_n hX dX5_pass_8 rfl ?_
  refine jr_getr hX kF_X5_12 rfl (ly_kI hly) (ly_p5_0 hly) dX5_pass_9 ?_
  refine jr_iconst (v := 3) hX dX5_pass_12 (by decide) ?_
  refine jr_ret (jr_runV hX hSt kM_X5_221 (c_X4_boatsIn (jj_fl hX) hly (by omega) hB hB2) rfl rfl (ly_kW hly (by first | assumption | omega)) ⟨_, _, rfl, by decide⟩ dX5_pass_13 rfl ⟨jj_b1 rfl, jj_b1 rfl⟩ rfl) ?_
  refine jr_istore_n hX dX5_pass_16 rfl ?_
  refine jr_iconst (v := 0) hX dX5_pass_17 (by decide) ?_
  refine jr_istore_n hX dX5_pass_18 rfl ?_
  have hloop : ∀ k, k ≤ y → jj_J X D 4 0 0 (jj_MQ X D { frames := 7, cells := 0, slots := 0, locals := 112 } (jj_R (some (.int (sm (q_bi 0 3 (f_ds 0 H B N d I y)) B - sm (q_bi 0 3 I) B))) (n) (K) (f_ds 0 H B N d I y) (P) (G)) jj_noX) (n) (K) (f_ds 0 H B N d I k) (P) (G) 19 [some (.ref 1), some (.int (nI y)), some (.int (sm (q_bi 0 3 I) B)), some (.int (nI k))] [] := by
    refine jj_for (y) _ ?_ (fun k hk ih => ?_)
    · refine jr_iload_n hX dX5_pass_19 rfl ?_
      refine jr_iload_n hX dX5_pass_20 rfl ?_
      refine jr_icmp_ge (tgt := 37) hX dX5_pass_21 (by decide) (fun c_21 => ?_) (fun c_21 => absurd (nI_le (Nat.le_refl _) (by omega)) c_21)
      refine jr_aload_n hX dX5_pass_37 rfl ?_
      refine jr_getr hX kF_X5_12 rfl (ly_kI hly) (ly_p5_0 hly) dX5_pass_38 ?_
      refine jr_iconst (v := 3) hX dX5_pass_41 (by decide) ?_
      refine jr_ret (jr_runV hX hSt kM_X5_221 (c_X4_boatsIn (jj_fl hX) hly (by omega) (dk y).1.2.2.1.1 hB2) rfl rfl (ly_kW hly (by first | assumption | omega)) ⟨_, _, rfl, by decide⟩ dX5_pass_42 rfl ⟨jj_b1 rfl, jj_b1 rfl⟩ rfl) ?_
      refine jr_iload_n hX dX5_pass_45 rfl ?_
      refine jr_isub hX dX5_pass_46 ?_
      exact jr_iret hX dX5_pass_47 rfl rfl ⟨rfl, rfl, rfl, rfl, rfl, rfl⟩
    · refine jr_iload_n hX dX5_pass_19 rfl ?_
      refine jr_iload_n hX dX5_pass_20 rfl ?_
      refine jr_icmp_ge (tgt := 37) hX dX5_pass_21 (by decide) (fun c_21 => absurd c_21 (nI_ge (by assumption) (by omega))) (fun c_21 => ?_)
      refine jr_aload_n hX dX5_pass_24 rfl ?_
      refine jr_getr hX kF_X5_12 rfl (ly_kI hly) (ly_p5_0 hly) dX5_pass_25 ?_
      refine jr_void (jr_runV hX hSt kM_X5_224 (c_X4_passDay (jj_fl hX) hly (by omega) (dk k).1 (dk k).2.1 (by omega)) rfl rfl (ly_kW hly (by first | assumption | omega)) ⟨_, _, rfl, by decide⟩ dX5_pass_28 rfl ⟨jj_b1 rfl, jj_b1 rfl⟩ rfl) ?_
      refine jr_iinc hX dX5_pass_31 rfl (by first | with_reducible exact jj_inc _ | with_reducible exact jj_inc1 _) rfl ?_
      refine jr_goto (tgt := 19) hX dX5_pass_34 (by decide) ?_
      exact ih
  exact hloop 0 (Nat.zero_le _)
set_option maxHeartbeats 4000000 in
set_option maxRecDepth 100000 in
theorem c_opens_ok {l : Launch} (hfl : l.stackTraces = false) {D : jj_D} {n : Nat} {K : jj_K} {I : jj_I} {P : jj_P} {G : jj_G} (hly : ly K P) {H M B N d : Nat} {h : Nat} (hs : sf 0 H M B N I) (hd : I (aR 0) 0 = nI d) (hd2 : d < 2000000000) (h_h : h < H - 1) :
    jj_Met l D yX5_opens (jj_ws yX5_opens cX5_opens 4 (some .int)) { frames := 8, cells := 0, slots := 0, locals := 132 } [.ref 1, .int (nI h)] n K I P G (jj_R (some (.int (f_fs (g_op h d I) 121 0))) (n) (K) (I) (P) (G)) jj_noX := by
  refine jj_of hfl (by decide +kernel) [some (.ref 1), some (.int (nI h)), none, none] rfl rfl ?_
  intro X hXl hX hSt
  have hH := hs.1.1
  have hH2 := hs.1.2
  have hM := hs.2.1.1
  have hM2 := hs.2.1.2
  have hB := hs.2.2.1.1
  have hB2 := hs.2.2.1.2
  have hN := hs.2.2.2.1.1
  have hN2 := hs.2.2.2.1.2
  refine jr_aload_n hX dX5_opens_0 rfl ?_
  refine jr_iload_n hX dX5_opens_1 rfl ?_
  refine jr_void (jr_runV hX hSt kM_X5_67 (c_needLeg_ok (jj_fl hX) hly (c := H - 1) h_h (by rw [show H - 1 + 1 = H by omega]; exact hH) (by omega) (by omega)) rfl rfl (ly_kI hly) ⟨_, _, rfl, by decide⟩ dX5_opens_2 rfl ⟨jj_b1 rfl, jj_b1 rfl⟩ rfl) ?_
  refine jr_aload_n hX dX5_opens_5 rfl ?_
  refine jr_getr hX kF_X5_20 rfl (ly_kI hly) (ly_p5_1 hly) dX5_opens_6 ?_
  refine jr_getr hX kF_X5_230 rfl (ly_kR hly (by first | assumption | omega)) (ly_p3_4 hly (by first | assumption | omega)) dX5_opens_9 ?_
  refine jr_iload_n hX dX5_opens_12 rfl ?_
  refine jr_iald hX (by first | with_reducible assumption | with_reducible exact ly_kWm hly (by first | assumption | omega) | with_reducible exact ly_kLd hly (by first | assumption | omega) | with_reducible exact ly_kIc hly (by first | assumption | omega) | with_reducible exact ly_kBe hly (by first | assumption | omega) | with_reducible exact ly_kPr hly (by first | assumption | omega) | with_reducible exact ly_kMt hly (by first | assumption | omega) (by first | assumption | omega) | with_reducible exact ly_kBc hly (by first | assumption | omega) (by first | assumption | omega) | with_reducible exact ly_kAh hly (by first | assumption | omega)) (by first | with_reducible rfl | with_reducible assumption | rfl) (by omega) dX5_opens_13 ?_
  refine jr_istore_n hX dX5_opens_14 rfl ?_
  refine jr_iconst (v := 0) hX dX5_opens_15 (by decide) ?_
  refine jr_istore_n hX dX5_opens_16 rfl ?_
  have hloop : ∀ k, k ≤ 121 → f_fs (g_op h d I) 121 0 = f_fs (g_op h d I) (121 - k) k → jj_J X D 4 0 0 (jj_MQ X D { frames := 8, cells := 0, slots := 0, locals := 132 } (jj_R (some (.int (f_fs (g_op h d I) 121 0))) (n) (K) (I) (P) (G)) jj_noX) (n) (K) (I) (P) (G) 17 [some (.ref 1), some (.int (nI h)), some (.int (f_ice h d I k)), some (.int (nI k))] [] := by
    refine jj_for (121) _ ?_ (fun k hk ih => ?_)
    · intro hv
      refine jr_iload_n hX dX5_opens_17 rfl ?_
      refine jr_bipush (v := 120) hX dX5_opens_18 (by decide) ?_
      refine jr_icmp_gt (tgt := 58) hX dX5_opens_20 (by decide) (fun c_20 => ?_) (fun c_20 => absurd (by decide) c_20)
      refine jr_iconst (v := -1) hX dX5_opens_58 (by decide) ?_
      exact jr_iret hX dX5_opens_59 rfl rfl ⟨jj_ri (by rw [hv]; rfl), rfl, rfl, rfl, rfl, rfl⟩
    · intro hv
      refine jr_iload_n hX dX5_opens_17 rfl ?_
      refine jr_bipush (v := 120) hX dX5_opens_18 (by decide) ?_
      refine jr_icmp_gt (tgt := 58) hX dX5_opens_20 (by decide) (fun c_20 => absurd c_20 (nI_nlt (by omega) (by omega) : ¬ nI 120 < nI k)) (fun c_20 => ?_)
      refine jr_iload_n hX dX5_opens_23 rfl ?_
      refine jr_bipush (v := 10) hX dX5_opens_24 (by decide) ?_
      refine jr_icmp_gt (tgt := 31) hX dX5_opens_26 (by decide) (fun c_26 => ?_) (fun c_26 => ?_)
      · refine jr_iload_n hX dX5_opens_31 rfl ?_
        refine jr_aload_n hX dX5_opens_32 rfl ?_
        refine jr_getr hX kF_X5_20 rfl (ly_kI hly) (ly_p5_1 hly) dX5_opens_33 ?_
        refine jr_aload_n hX dX5_opens_36 rfl ?_
        refine jr_getr hX kF_X5_20 rfl (ly_kI hly) (ly_p5_1 hly) dX5_opens_37 ?_
        refine jr_geti hX kF_X5_180 rfl (ly_kR hly (by first | assumption | omega)) dX5_opens_40 ?_
        rw [hd]
        refine jr_iload_n hX dX5_opens_43 rfl ?_
        refine jr_iadd hX dX5_opens_44 ?_
        rw [nI_add]
        refine jr_ret (jr_runV hX hSt kM_X5_233 (c_X3_warmOn (jj_fl hX) hly (by omega) (by omega)) rfl rfl (ly_kR hly (by first | assumption | omega)) ⟨_, _, rfl, by decide⟩ dX5_opens_45 rfl ⟨jj_b1 rfl, jj_b1 rfl⟩ rfl) ?_
        refine jr_ret (jr_runS hX hSt kM_X5_236 (c_X5_iceBehind (jj_fl hX)) rfl rfl dX5_opens_48 rfl ⟨jj_b1 rfl, jj_b1 rfl⟩ rfl) ?_
        refine jr_istore_n hX dX5_opens_51 rfl ?_
        refine jr_iinc hX dX5_opens_52 rfl (by first | with_reducible exact jj_inc _ | with_reducible exact jj_inc1 _) rfl ?_
        refine jr_goto (tgt := 17) hX dX5_opens_55 (by decide) ?_
        exact ih (by rw [hv, show 121 - k = (121 - (k + 1)) + 1 by omega, f_fs_n (if_neg (Int32.not_le.mpr c_26))])
      · refine jr_iload_n hX dX5_opens_29 rfl ?_
        exact jr_iret hX dX5_opens_30 rfl rfl ⟨jj_ri (by rw [hv, show 121 - k = (121 - (k + 1)) + 1 by omega, f_fs_s (if_pos (Int32.not_lt.mp c_26))]), rfl, rfl, rfl, rfl, rfl⟩
  exact hloop 0 (Nat.zero_le _) rfl
