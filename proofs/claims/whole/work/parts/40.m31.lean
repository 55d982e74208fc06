/-! lending -/
def f_s7 (n a b h g : Nat) (y t : Int32) (S : jj_I) : jj_I := (jj_u (jj_u (jj_u (jj_u (jj_u (jj_u (jj_u (jj_uR S n (fun _ => 0)) n 0 (nI a)) n 1 (nI b)) n 2 (nI h)) n 3 (nI g)) n 4 (y + y / 10)) n 5 t) n 6 0)
theorem s7_ne {n a b h g x : Nat} {y t : Int32} {S : jj_I} (e : x ≠ n) : f_s7 n a b h g y t S x = S x := by
  unfold f_s7
  rw [jj_u_ne e, jj_u_ne e, jj_u_ne e, jj_u_ne e, jj_u_ne e, jj_u_ne e, jj_u_ne e, jj_uR_ne e]
def f_leI (n a b h g N : Nat) (y t : Int32) (S : jj_I) : jj_I := jj_u (jj_uR (f_s7 n a b h g y t S) 159 (va_cpy (f_s7 n a b h g y t S n) (f_s7 n a b h g y t S 159) 0 (7 * N) 7)) 150 8 (nI (N + 1))
theorem le_ne {n a b h g N x : Nat} {y t : Int32} {S : jj_I} (e : x ≠ n) (e1 : x ≠ 159) (e2 : x ≠ 150) : f_leI n a b h g N y t S x = S x := by
  unfold f_leI
  rw [jj_u_ne e2, jj_uR_ne e1, s7_ne e]
theorem ml_uDn {w H M B N : Nat} {C C' I I' : jj_I} (h : ml w H M B N C I) (z : mlZ M B N) (hN : N < 30) (hC : ∀ a, a ≠ aD w N → C' a = C a) (hI : ∀ a, a ≠ 159 → I' a = I a) (hS : ∀ s, s < 7 * N → I' 159 s = I 159 s) : ml w H M B N C' I' := by
  obtain ⟨z1, z2, z3⟩ := z
  obtain ⟨⟨n1, n2, n3, n4⟩, h0, h1, h2, h3, h4, h5, h6, h7, h8, h9⟩ := h
  refine ⟨by unfold mlN; rw [hI _ (by decide)]; exact ⟨n1, n2, n3, n4⟩, ?_, fun q hq => ?_, fun q hq => ?_, fun q hq => ?_, fun q hq => ?_, fun q hq => ?_, fun m0 hm0 => ?_, fun m0 hm0 q hq => ?_, fun b0 hb0 => mlB_cg (hC _ (by simp only [aB, aD]; omega)) (hC _ (by simp only [aBc, aD]; omega)) (fun s _ _ => by rw [hI 158 (by decide)]) (h8 b0 hb0), fun d0 hd0 q hq => ?_⟩
  · rw [hI _ (by decide), hC _ (by simp only [aR, aD]; omega)]; exact h0
  · rw [hI _ (by decide), hC _ (by simp only [aWm, aD]; omega)]; exact h1 q hq
  · rw [hI _ (by decide), hC _ (by simp only [aLd, aD]; omega)]; exact h2 q hq
  · rw [hI _ (by decide), hC _ (by simp only [aBe, aD]; omega)]; exact h3 q hq
  · rw [hI _ (by decide), hC _ (by simp only [aPr, aD]; omega)]; exact h4 q hq
  · rw [hI _ (by decide), hC _ (by simp only [aIc, aD]; omega)]; exact h5 q hq
  · rw [hI _ (by decide), hC _ (by simp only [aM, aD]; omega)]; exact h6 m0 hm0
  · rw [hI _ (by decide), hC _ (by simp only [aMt, aD]; omega)]; exact h7 m0 hm0 q hq
  · rw [hS _ (by omega), hC _ (by simp only [aD]; omega)]; exact h9 d0 hd0 q hq
theorem ml_lend {H M B N n a b h g : Nat} {y t : Int32} {C S : jj_I} (hm : ml 0 H M B N C S) (z : mlZ M B N) (hn : 161 ≤ n) (hN : N < 30) (f : Nat → Int32) : ml 0 H M B (N + 1) (jj_u (f_op 0 N (nI a) (nI b) (nI h) (nI g) (y + y / 10) t C) (aW 0) 3 (nI (N + 1))) (jj_uR (f_leI n a b h g N y t S) n f) := by
  have z2 : mlZ M B (N + 1) := ⟨z.1, z.2.1, by omega⟩
  have hv : ∀ s, s < 7 → jj_uR S 159 (va_cpy (f_s7 n a b h g y t S n) (S 159) 0 (7 * N) 7) 159 (7 * N + s) = f_s7 n a b h g y t S n s := fun s hs => by
    rw [jj_uR_eq, pk_cpy_in (by omega) (by omega), show 0 + (7 * N + s - 7 * N) = s by omega]
  have nb : ∀ k, k < 7 → jj_uR S 159 (va_cpy (f_s7 n a b h g y t S n) (S 159) 0 (7 * N) 7) 159 (7 * N + k) = f_op 0 N (nI a) (nI b) (nI h) (nI g) (y + y / 10) t C (aD 0 N) k := fun k hk => by
    rw [hv k hk]
    have hk7 : k = 0 ∨ k = 1 ∨ k = 2 ∨ k = 3 ∨ k = 4 ∨ k = 5 ∨ k = 6 := by omega
    rcases hk7 with rfl | rfl | rfl | rfl | rfl | rfl | rfl <;> simp [f_s7, f_op, jj_u]
  have s1 : ml 0 H M B N (f_op 0 N (nI a) (nI b) (nI h) (nI g) (y + y / 10) t C) (jj_uR S 159 (va_cpy (f_s7 n a b h g y t S n) (S 159) 0 (7 * N) 7)) := ml_uDn hm z hN (fun x e => by unfold f_op; rw [jj_u_ne e, jj_u_ne e, jj_u_ne e, jj_u_ne e, jj_u_ne e, jj_u_ne e, jj_u_ne e]) (fun x e => jj_uR_ne e) (fun s e => by rw [jj_uR_eq, pk_cpy_out (by omega)])
  have s2 := ml_uW (M2 := M) (B2 := B) (N2 := N + 1) (s := 8) (s2 := 3) (y := N + 1) s1 z2 (fun _ _ _ => trivial) ⟨by rw [jj_u_nk (by decide)]; exact s1.1.1, by rw [jj_u_nk (by decide)]; exact s1.1.2.1, by rw [jj_u_nk (by decide)]; exact s1.1.2.2.1, jj_u_eq⟩ (fun m0 hm0 => ⟨ml_hCoin s1 hm0, fun k hk => ml_hStock s1 hm0 hk⟩) (fun b hb => ml_hB s1 hb) (fun d hd k hk => by
    by_cases e : d = N
    · subst e; exact nb k hk
    · exact ml_hDebt s1 (by omega) hk)
  refine ml_cg (fun _ _ _ => rfl) (fun x h1 h2 => ⟨fun e => ?_, fun e => ?_⟩) z2 s2
  · subst e
    rw [jj_uR_ne (by omega)]
    unfold f_leI
    refine ⟨?_, ?_, ?_, ?_⟩
    · rw [jj_u_nk (by decide), jj_u_nk (by decide), jj_uR_ne (by decide), jj_uR_ne (by decide), s7_ne (by omega)]
    · rw [jj_u_nk (by decide), jj_u_nk (by decide), jj_uR_ne (by decide), jj_uR_ne (by decide), s7_ne (by omega)]
    · rw [jj_u_nk (by decide), jj_u_nk (by decide), jj_uR_ne (by decide), jj_uR_ne (by decide), s7_ne (by omega)]
    · rw [jj_u_eq, jj_u_eq]
  · rw [jj_uR_ne (by omega)]
    by_cases e8 : x = 159
    · subst e8
      unfold f_leI
      rw [jj_u_ne (by decide), jj_u_ne (by decide), jj_uR_eq, jj_uR_eq, s7_ne (show (159 : Nat) ≠ n by omega)]
    · rw [le_ne (by omega) e8 e, jj_u_ne e, jj_uR_ne e8]
set_option maxHeartbeats 4000000 in
set_option maxRecDepth 100000 in
theorem m_lend_x1 {l : Launch} (hfl : l.stackTraces = false) {D : jj_D} {n : Nat} {K : jj_K} {I : jj_I} {P : jj_P} {G : jj_G} (hly : ly K P) {H M B N : Nat} {C : jj_I} {a : Int32} {b : Int32} {h : Int32} {g : Int32} {y : Int32} {t : Int32} (hs : sf 0 H M B N C) (hk : sk 0 H M B N C) (hm : ml 0 H M B N C I) (hz : mz M C I) (h_a : a < 0 ∨ nI M ≤ a) :
    jj_Met l D yX6_lend (jj_ws yX6_lend cX6_lend 8 (some .int)) { frames := 2, cells := 0, slots := 0, locals := 43 } [.ref 150, .int a, .int b, .int h, .int g, .int y, .int t] n K I P G (jj_R (some (.int 0)) (n) (K) (jj_u (jj_u I 150 0 0) 150 0 1) (P) (G)) jj_noX := by
  refine jj_of hfl (by decide +kernel) [some (.ref 150), some (.int a), some (.int b), some (.int h), some (.int g), some (.int y), some (.int t), none] rfl rfl ?_
  intro X hXl hX hSt
  have z := sf_Z hs
  have hm0 : ml 0 H M B N C (jj_u I 150 0 0) := ml_th hm z
  have hz0 : mz M C (jj_u I 150 0 0) := mz_th hz
  have hH0 := hm0.1.1
  have hM0 := hm0.1.2.1
  have hB0 := hm0.1.2.2.1
  have hN0 := hm0.1.2.2.2
  have hH2 := hs.1.2
  have hM2 := z.1
  have hB2 := z.2.1
  have hN2 := z.2.2
  refine jr_aload_n hX dX6_lend_0 rfl ?_
  refine jr_iconst (v := 0) hX dX6_lend_1 (by decide) ?_
  refine jr_puti hX kF_X6_40 rfl (ly_kMo hly) (by decide) dX6_lend_2 ?_
  refine jr_aload_n hX dX6_lend_5 rfl ?_
  refine jr_iload_n hX dX6_lend_6 rfl ?_
  refine jr_ret (jr_runV hX hSt kM_X6_96 (c_isMerchant_x (jj_fl hX) hly h_a hM0 (by omega)) rfl rfl (ly_kMo hly) ⟨_, _, rfl, by decide⟩ dX6_lend_7 rfl ⟨jj_b1 rfl, jj_b1 rfl⟩ rfl) ?_
  refine jr_if_eq (tgt := 37) hX dX6_lend_10 (by decide) (fun c_10 => ?_) (fun c_10 => absurd rfl c_10)
  refine jr_aload_n hX dX6_lend_37 rfl ?_
  refine jr_iconst (v := 1) hX dX6_lend_38 (by decide) ?_
  refine jr_ret (jr_runV hX hSt kM_X6_57 (c_fail (jj_fl hX) hly) rfl rfl (ly_kMo hly) ⟨_, _, rfl, by decide⟩ dX6_lend_39 rfl ⟨jj_b1 rfl, jj_b1 rfl⟩ rfl) ?_
  exact jr_iret hX dX6_lend_42 rfl rfl ⟨rfl, rfl, rfl, rfl, rfl, rfl⟩
set_option maxHeartbeats 4000000 in
set_option maxRecDepth 100000 in
theorem m_lend_x2 {l : Launch} (hfl : l.stackTraces = false) {D : jj_D} {n : Nat} {K : jj_K} {I : jj_I} {P : jj_P} {G : jj_G} (hly : ly K P) {H M B N : Nat} {C : jj_I} {a : Nat} {b : Int32} {h : Int32} {g : Int32} {y : Int32} {t : Int32} (hs : sf 0 H M B N C) (hk : sk 0 H M B N C) (hm : ml 0 H M B N C I) (hz : mz M C I) (h_a : a < M) (h_b : b < 0 ∨ nI M ≤ b) :
    jj_Met l D yX6_lend (jj_ws yX6_lend cX6_lend 8 (some .int)) { frames := 2, cells := 0, slots := 0, locals := 43 } [.ref 150, .int (nI a), .int b, .int h, .int g, .int y, .int t] n K I P G (jj_R (some (.int 0)) (n) (K) (jj_u (jj_u I 150 0 0) 150 0 1) (P) (G)) jj_noX := by
  refine jj_of hfl (by decide +kernel) [some (.ref 150), some (.int (nI a)), some (.int b), some (.int h), some (.int g), some (.int y), some (.int t), none] rfl rfl ?_
  intro X hXl hX hSt
  have z := sf_Z hs
  have hm0 : ml 0 H M B N C (jj_u I 150 0 0) := ml_th hm z
  have hz0 : mz M C (jj_u I 150 0 0) := mz_th hz
  have hH0 := hm0.1.1
  have hM0 := hm0.1.2.1
  have hB0 := hm0.1.2.2.1
  have hN0 := hm0.1.2.2.2
  have hH2 := hs.1.2
  have hM2 := z.1
  have hB2 := z.2.1
  have hN2 := z.2.2
  refine jr_aload_n hX dX6_lend_0 rfl ?_
  refine jr_iconst (v := 0) hX dX6_lend_1 (by decide) ?_
  refine jr_puti hX kF_X6_40 rfl (ly_kMo hly) (by decide) dX6_lend_2 ?_
  refine jr_aload_n hX dX6_lend_5 rfl ?_
  refine jr_iload_n hX dX6_lend_6 rfl ?_
  refine jr_ret (jr_runV hX hSt kM_X6_96 (c_isMerchant_ok (jj_fl hX) hly h_a hM0 (by omega)) rfl rfl (ly_kMo hly) ⟨_, _, rfl, by decide⟩ dX6_lend_7 rfl ⟨jj_b1 rfl, jj_b1 rfl⟩ rfl) ?_
  refine jr_if_eq (tgt := 37) hX dX6_lend_10 (by decide) (fun c_10 => absurd c_10 (by decide)) (fun c_10 => ?_)
  refine jr_aload_n hX dX6_lend_13 rfl ?_
  refine jr_iload_n hX dX6_lend_14 rfl ?_
  refine jr_ret (jr_runV hX hSt kM_X6_96 (c_isMerchant_x (jj_fl hX) hly h_b hM0 (by omega)) rfl rfl (ly_kMo hly) ⟨_, _, rfl, by decide⟩ dX6_lend_15 rfl ⟨jj_b1 rfl, jj_b1 rfl⟩ rfl) ?_
  refine jr_if_eq (tgt := 37) hX dX6_lend_18 (by decide) (fun c_18 => ?_) (fun c_18 => absurd rfl c_18)
  refine jr_aload_n hX dX6_lend_37 rfl ?_
  refine jr_iconst (v := 1) hX dX6_lend_38 (by decide) ?_
  refine jr_ret (jr_runV hX hSt kM_X6_57 (c_fail (jj_fl hX) hly) rfl rfl (ly_kMo hly) ⟨_, _, rfl, by decide⟩ dX6_lend_39 rfl ⟨jj_b1 rfl, jj_b1 rfl⟩ rfl) ?_
  exact jr_iret hX dX6_lend_42 rfl rfl ⟨rfl, rfl, rfl, rfl, rfl, rfl⟩
set_option maxHeartbeats 4000000 in
set_option maxRecDepth 100000 in
theorem m_lend_x3 {l : Launch} (hfl : l.stackTraces = false) {D : jj_D} {n : Nat} {K : jj_K} {I : jj_I} {P : jj_P} {G : jj_G} (hly : ly K P) {H M B N : Nat} {C : jj_I} {a : Nat} {b : Nat} {h : Int32} {g : Int32} {y : Int32} {t : Int32} (hs : sf 0 H M B N C) (hk : sk 0 H M B N C) (hm : ml 0 H M B N C I) (hz : mz M C I) (h_a : a < M) (h_b : b < M) (h_h : h < 0 ∨ nI H ≤ h) :
    jj_Met l D yX6_lend (jj_ws yX6_lend cX6_lend 8 (some .int)) { frames := 2, cells := 0, slots := 0, locals := 43 } [.ref 150, .int (nI a), .int (nI b), .int h, .int g, .int y, .int t] n K I P G (jj_R (some (.int 0)) (n) (K) (jj_u (jj_u I 150 0 0) 150 0 1) (P) (G)) jj_noX := by
  refine jj_of hfl (by decide +kernel) [some (.ref 150), some (.int (nI a)), some (.int (nI b)), some (.int h), some (.int g), some (.int y), some (.int t), none] rfl rfl ?_
  intro X hXl hX hSt
  have z := sf_Z hs
  have hm0 : ml 0 H M B N C (jj_u I 150 0 0) := ml_th hm z
  have hz0 : mz M C (jj_u I 150 0 0) := mz_th hz
  have hH0 := hm0.1.1
  have hM0 := hm0.1.2.1
  have hB0 := hm0.1.2.2.1
  have hN0 := hm0.1.2.2.2
  have hH2 := hs.1.2
  have hM2 := z.1
  have hB2 := z.2.1
  have hN2 := z.2.2
  refine jr_aload_n hX dX6_lend_0 rfl ?_
  refine jr_iconst (v := 0) hX dX6_lend_1 (by decide) ?_
  refine jr_puti hX kF_X6_40 rfl (ly_kMo hly) (by decide) dX6_lend_2 ?_
  refine jr_aload_n hX dX6_lend_5 rfl ?_
  refine jr_iload_n hX dX6_lend_6 rfl ?_
  refine jr_ret (jr_runV hX hSt kM_X6_96 (c_isMerchant_ok (jj_fl hX) hly h_a hM0 (by omega)) rfl rfl (ly_kMo hly) ⟨_, _, rfl, by decide⟩ dX6_lend_7 rfl ⟨jj_b1 rfl, jj_b1 rfl⟩ rfl) ?_
  refine jr_if_eq (tgt := 37) hX dX6_lend_10 (by decide) (fun c_10 => absurd c_10 (by decide)) (fun c_10 => ?_)
  refine jr_aload_n hX dX6_lend_13 rfl ?_
  refine jr_iload_n hX dX6_lend_14 rfl ?_
  refine jr_ret (jr_runV hX hSt kM_X6_96 (c_isMerchant_ok (jj_fl hX) hly h_b hM0 (by omega)) rfl rfl (ly_kMo hly) ⟨_, _, rfl, by decide⟩ dX6_lend_15 rfl ⟨jj_b1 rfl, jj_b1 rfl⟩ rfl) ?_
  refine jr_if_eq (tgt := 37) hX dX6_lend_18 (by decide) (fun c_18 => absurd c_18 (by decide)) (fun c_18 => ?_)
  refine jr_aload_n hX dX6_lend_21 rfl ?_
  refine jr_iload_n hX dX6_lend_22 rfl ?_
  refine jr_ret (jr_runV hX hSt kM_X6_61 (c_isHarbour_x (jj_fl hX) hly h_h hH0 (by omega)) rfl rfl (ly_kMo hly) ⟨_, _, rfl, by decide⟩ dX6_lend_23 rfl ⟨jj_b1 rfl, jj_b1 rfl⟩ rfl) ?_
  refine jr_if_eq (tgt := 37) hX dX6_lend_26 (by decide) (fun c_26 => ?_) (fun c_26 => absurd rfl c_26)
  refine jr_aload_n hX dX6_lend_37 rfl ?_
  refine jr_iconst (v := 1) hX dX6_lend_38 (by decide) ?_
  refine jr_ret (jr_runV hX hSt kM_X6_57 (c_fail (jj_fl hX) hly) rfl rfl (ly_kMo hly) ⟨_, _, rfl, by decide⟩ dX6_lend_39 rfl ⟨jj_b1 rfl, jj_b1 rfl⟩ rfl) ?_
  exact jr_iret hX dX6_lend_42 rfl rfl ⟨rfl, rfl, rfl, rfl, rfl, rfl⟩
set_option maxHeartbeats 4000000 in
set_option maxRecDepth 100000 in
theorem m_lend_x4 {l : Launch} (hfl : l.stackTraces = false) {D : jj_D} {n : Nat} {K : jj_K} {I : jj_I} {P : jj_P} {G : jj_G} (hly : ly K P) {H M B N : Nat} {C : jj_I} {a : Nat} {b : Nat} {h : Nat} {g : Int32} {y : Int32} {t : Int32} (hs : sf 0 H M B N C) (hk : sk 0 H M B N C) (hm : ml 0 H M B N C I) (hz : mz M C I) (h_a : a < M) (h_b : b < M) (h_h : h < H) (h_g : g < 0 ∨ nI 4 ≤ g) :
    jj_Met l D yX6_lend (jj_ws yX6_lend cX6_lend 8 (some .int)) { frames := 2, cells := 0, slots := 0, locals := 43 } [.ref 150, .int (nI a), .int (nI b), .int (nI h), .int g, .int y, .int t] n K I P G (jj_R (some (.int 0)) (n) (K) (jj_u (jj_u I 150 0 0) 150 0 1) (P) (G)) jj_noX := by
  refine jj_of hfl (by decide +kernel) [some (.ref 150), some (.int (nI a)), some (.int (nI b)), some (.int (nI h)), some (.int g), some (.int y), some (.int t), none] rfl rfl ?_
  intro X hXl hX hSt
  have z := sf_Z hs
  have hm0 : ml 0 H M B N C (jj_u I 150 0 0) := ml_th hm z
  have hz0 : mz M C (jj_u I 150 0 0) := mz_th hz
  have hH0 := hm0.1.1
  have hM0 := hm0.1.2.1
  have hB0 := hm0.1.2.2.1
  have hN0 := hm0.1.2.2.2
  have hH2 := hs.1.2
  have hM2 := z.1
  have hB2 := z.2.1
  have hN2 := z.2.2
  refine jr_aload_n hX dX6_lend_0 rfl ?_
  refine jr_iconst (v := 0) hX dX6_lend_1 (by decide) ?_
  refine jr_puti hX kF_X6_40 rfl (ly_kMo hly) (by decide) dX6_lend_2 ?_
  refine jr_aload_n hX dX6_lend_5 rfl ?_
  refine jr_iload_n hX dX6_lend_6 rfl ?_
  refine jr_ret (jr_runV hX hSt kM_X6_96 (c_isMerchant_ok (jj_fl hX) hly h_a hM0 (by omega)) rfl rfl (ly_kMo hly) ⟨_, _, rfl, by decide⟩ dX6_lend_7 rfl ⟨jj_b1 rfl, jj_b1 rfl⟩ rfl) ?_
  refine jr_if_eq (tgt := 37) hX dX6_lend_10 (by decide) (fun c_10 => absurd c_10 (by decide)) (fun c_10 => ?_)
  refine jr_aload_n hX dX6_lend_13 rfl ?_
  refine jr_iload_n hX dX6_lend_14 rfl ?_
  refine jr_ret (jr_runV hX hSt kM_X6_96 (c_isMerchant_ok (jj_fl hX) hly h_b hM0 (by omega)) rfl rfl (ly_kMo hly) ⟨_, _, rfl, by decide⟩ dX6_lend_15 rfl ⟨jj_b1 rfl, jj_b1 rfl⟩ rfl) ?_
  refine jr_if_eq (tgt := 37) hX dX6_lend_18 (by decide) (fun c_18 => absurd c_18 (by decide)) (fun c_18 => ?_)
  refine jr_aload_n hX dX6_lend_21 rfl ?_
  refine jr_iload_n hX dX6_lend_22 rfl ?_
  refine jr_ret (jr_runV hX hSt kM_X6_61 (c_isHarbour_ok (jj_fl hX) hly h_h hH0 (by omega)) rfl rfl (ly_kMo hly) ⟨_, _, rfl, by decide⟩ dX6_lend_23 rfl ⟨jj_b1 rfl, jj_b1 rfl⟩ rfl) ?_
  refine jr_if_eq (tgt := 37) hX dX6_lend_26 (by decide) (fun c_26 => absurd c_26 (by decide)) (fun c_26 => ?_)
  refine jr_iload hX dX6_lend_29 rfl ?_
  refine jr_ret (jr_runS hX hSt kM_X6_65 (c_isGood_x (jj_fl hX) h_g) rfl rfl dX6_lend_31 rfl ⟨jj_b1 rfl, jj_b1 rfl⟩ rfl) ?_
  refine jr_if_ne (tgt := 43) hX dX6_lend_34 (by decide) (fun c_34 => absurd rfl c_34) (fun c_34 => ?_)
  refine jr_aload_n hX dX6_lend_37 rfl ?_
  refine jr_iconst (v := 1) hX dX6_lend_38 (by decide) ?_
  refine jr_ret (jr_runV hX hSt kM_X6_57 (c_fail (jj_fl hX) hly) rfl rfl (ly_kMo hly) ⟨_, _, rfl, by decide⟩ dX6_lend_39 rfl ⟨jj_b1 rfl, jj_b1 rfl⟩ rfl) ?_
  exact jr_iret hX dX6_lend_42 rfl rfl ⟨rfl, rfl, rfl, rfl, rfl, rfl⟩
set_option maxHeartbeats 4000000 in
set_option maxRecDepth 100000 in
theorem m_lend_x5 {l : Launch} (hfl : l.stackTraces = false) {D : jj_D} {n : Nat} {K : jj_K} {I : jj_I} {P : jj_P} {G : jj_G} (hly : ly K P) {H M B N : Nat} {C : jj_I} {a : Nat} {b : Nat} {h : Nat} {g : Nat} {y : Int32} {t : Int32} (hs : sf 0 H M B N C) (hk : sk 0 H M B N C) (hm : ml 0 H M B N C I) (hz : mz M C I) (h_a : a < M) (h_b : b < M) (h_h : h < H) (h_g : g < 4) (h_ab : a = b) :
    jj_Met l D yX6_lend (jj_ws yX6_lend cX6_lend 8 (some .int)) { frames := 2, cells := 0, slots := 0, locals := 43 } [.ref 150, .int (nI a), .int (nI b), .int (nI h), .int (nI g), .int y, .int t] n K I P G (jj_R (some (.int 0)) (n) (K) (jj_u (jj_u I 150 0 0) 150 0 2) (P) (G)) jj_noX := by
  refine jj_of hfl (by decide +kernel) [some (.ref 150), some (.int (nI a)), some (.int (nI b)), some (.int (nI h)), some (.int (nI g)), some (.int y), some (.int t), none] rfl rfl ?_
  intro X hXl hX hSt
  have z := sf_Z hs
  have hm0 : ml 0 H M B N C (jj_u I 150 0 0) := ml_th hm z
  have hz0 : mz M C (jj_u I 150 0 0) := mz_th hz
  have hH0 := hm0.1.1
  have hM0 := hm0.1.2.1
  have hB0 := hm0.1.2.2.1
  have hN0 := hm0.1.2.2.2
  have hH2 := hs.1.2
  have hM2 := z.1
  have hB2 := z.2.1
  have hN2 := z.2.2
  refine jr_aload_n hX dX6_lend_0 rfl ?_
  refine jr_iconst (v := 0) hX dX6_lend_1 (by decide) ?_
  refine jr_puti hX kF_X6_40 rfl (ly_kMo hly) (by decide) dX6_lend_2 ?_
  refine jr_aload_n hX dX6_lend_5 rfl ?_
  refine jr_iload_n hX dX6_lend_6 rfl ?_
  refine jr_ret (jr_runV hX hSt kM_X6_96 (c_isMerchant_ok (jj_fl hX) hly h_a hM0 (by omega)) rfl rfl (ly_kMo hly) ⟨_, _, rfl, by decide⟩ dX6_lend_7 rfl ⟨jj_b1 rfl, jj_b1 rfl⟩ rfl) ?_
  refine jr_if_eq (tgt := 37) hX dX6_lend_10 (by decide) (fun c_10 => absurd c_10 (by decide)) (fun c_10 => ?_)
  refine jr_aload_n hX dX6_lend_13 rfl ?_
  refine jr_iload_n hX dX6_lend_14 rfl ?_
  refine jr_ret (jr_runV hX hSt kM_X6_96 (c_isMerchant_ok (jj_fl hX) hly h_b hM0 (by omega)) rfl rfl (ly_kMo hly) ⟨_, _, rfl, by decide⟩ dX6_lend_15 rfl ⟨jj_b1 rfl, jj_b1 rfl⟩ rfl) ?_
  refine jr_if_eq (tgt := 37) hX dX6_lend_18 (by decide) (fun c_18 => absurd c_18 (by decide)) (fun c_18 => ?_)
  refine jr_aload_n hX dX6_lend_21 rfl ?_
  refine jr_iload_n hX dX6_lend_22 rfl ?_
  refine jr_ret (jr_runV hX hSt kM_X6_61 (c_isHarbour_ok (jj_fl hX) hly h_h hH0 (by omega)) rfl rfl (ly_kMo hly) ⟨_, _, rfl, by decide⟩ dX6_lend_23 rfl ⟨jj_b1 rfl, jj_b1 rfl⟩ rfl) ?_
  refine jr_if_eq (tgt := 37) hX dX6_lend_26 (by decide) (fun c_26 => absurd c_26 (by decide)) (fun c_26 => ?_)
  refine jr_iload hX dX6_lend_29 rfl ?_
  refine jr_ret (jr_runS hX hSt kM_X6_65 (c_isGood_ok (jj_fl hX) h_g) rfl rfl dX6_lend_31 rfl ⟨jj_b1 rfl, jj_b1 rfl⟩ rfl) ?_
  refine jr_if_ne (tgt := 43) hX dX6_lend_34 (by decide) (fun c_34 => ?_) (fun c_34 => absurd c_34 (by decide))
  refine jr_iload_n hX dX6_lend_43 rfl ?_
  refine jr_iload_n hX dX6_lend_44 rfl ?_
  refine jr_icmp_eq (tgt := 65) hX dX6_lend_45 (by decide) (fun c_45 => ?_) (fun c_45 => absurd (by rw [h_ab]) c_45)
  refine jr_aload_n hX dX6_lend_65 rfl ?_
  refine jr_iconst (v := 2) hX dX6_lend_66 (by decide) ?_
  refine jr_ret (jr_runV hX hSt kM_X6_57 (c_fail (jj_fl hX) hly) rfl rfl (ly_kMo hly) ⟨_, _, rfl, by decide⟩ dX6_lend_67 rfl ⟨jj_b1 rfl, jj_b1 rfl⟩ rfl) ?_
  exact jr_iret hX dX6_lend_70 rfl rfl ⟨rfl, rfl, rfl, rfl, rfl, rfl⟩
set_option maxHeartbeats 4000000 in
set_option maxRecDepth 100000 in
theorem m_lend_x6 {l : Launch} (hfl : l.stackTraces = false) {D : jj_D} {n : Nat} {K : jj_K} {I : jj_I} {P : jj_P} {G : jj_G} (hly : ly K P) {H M B N : Nat} {C : jj_I} {a : Nat} {b : Nat} {h : Nat} {g : Nat} {y : Int32} {t : Int32} (hs : sf 0 H M B N C) (hk : sk 0 H M B N C) (hm : ml 0 H M B N C I) (hz : mz M C I) (h_a : a < M) (h_b : b < M) (h_h : h < H) (h_g : g < 4) (h_ab : ¬ a = b) (h_y : y < 1) :
    jj_Met l D yX6_lend (jj_ws yX6_lend cX6_lend 8 (some .int)) { frames := 2, cells := 0, slots := 0, locals := 43 } [.ref 150, .int (nI a), .int (nI b), .int (nI h), .int (nI g), .int y, .int t] n K I P G (jj_R (some (.int 0)) (n) (K) (jj_u (jj_u I 150 0 0) 150 0 2) (P) (G)) jj_noX := by
  refine jj_of hfl (by decide +kernel) [some (.ref 150), some (.int (nI a)), some (.int (nI b)), some (.int (nI h)), some (.int (nI g)), some (.int y), some (.int t), none] rfl rfl ?_
  intro X hXl hX hSt
  have z := sf_Z hs
  have hm0 : ml 0 H M B N C (jj_u I 150 0 0) := ml_th hm z
  have hz0 : mz M C (jj_u I 150 0 0) := mz_th hz
  have hH0 := hm0.1.1
  have hM0 := hm0.1.2.1
  have hB0 := hm0.1.2.2.1
  have hN0 := hm0.1.2.2.2
  have hH2 := hs.1.2
  have hM2 := z.1
  have hB2 := z.2.1
  have hN2 := z.2.2
  refine jr_aload_n hX dX6_lend_0 rfl ?_
  refine jr_iconst (v := 0) hX dX6_lend_1 (by decide) ?_
  refine jr_puti hX kF_X6_40 rfl (ly_kMo hly) (by decide) dX6_lend_2 ?_
  refine jr_aload_n hX dX6_lend_5 rfl ?_
  refine jr_iload_n hX dX6_lend_6 rfl ?_
  refine jr_ret (jr_runV hX hSt kM_X6_96 (c_isMerchant_ok (jj_fl hX) hly h_a hM0 (by omega)) rfl rfl (ly_kMo hly) ⟨_, _, rfl, by decide⟩ dX6_lend_7 rfl ⟨jj_b1 rfl, jj_b1 rfl⟩ rfl) ?_
  refine jr_if_eq (tgt := 37) hX dX6_lend_10 (by decide) (fun c_10 => absurd c_10 (by decide)) (fun c_10 => ?_)
  refine jr_aload_n hX dX6_lend_13 rfl ?_
  refine jr_iload_n hX dX6_lend_14 rfl ?_
  refine jr_ret (jr_runV hX hSt kM_X6_96 (c_isMerchant_ok (jj_fl hX) hly h_b hM0 (by omega)) rfl rfl (ly_kMo hly) ⟨_, _, rfl, by decide⟩ dX6_lend_15 rfl ⟨jj_b1 rfl, jj_b1 rfl⟩ rfl) ?_
  refine jr_if_eq (tgt := 37) hX dX6_lend_18 (by decide) (fun c_18 => absurd c_18 (by decide)) (fun c_18 => ?_)
  refine jr_aload_n hX dX6_lend_21 rfl ?_
  refine jr_iload_n hX dX6_lend_22 rfl ?_
  refine jr_ret (jr_runV hX hSt kM_X6_61 (c_isHarbour_ok (jj_fl hX) hly h_h hH0 (by omega)) rfl rfl (ly_kMo hly) ⟨_, _, rfl, by decide⟩ dX6_lend_23 rfl ⟨jj_b1 rfl, jj_b1 rfl⟩ rfl) ?_
  refine jr_if_eq (tgt := 37) hX dX6_lend_26 (by decide) (fun c_26 => absurd c_26 (by decide)) (fun c_26 => ?_)
  refine jr_iload hX dX6_lend_29 rfl ?_
  refine jr_ret (jr_runS hX hSt kM_X6_65 (c_isGood_ok (jj_fl hX) h_g) rfl rfl dX6_lend_31 rfl ⟨jj_b1 rfl, jj_b1 rfl⟩ rfl) ?_
  refine jr_if_ne (tgt := 43) hX dX6_lend_34 (by decide) (fun c_34 => ?_) (fun c_34 => absurd c_34 (by decide))
  refine jr_iload_n hX dX6_lend_43 rfl ?_
  refine jr_iload_n hX dX6_lend_44 rfl ?_
  refine jr_icmp_eq (tgt := 65) hX dX6_lend_45 (by decide) (fun c_45 => absurd (jm_n c_45 (by omega) (by omega)) h_ab) (fun c_45 => ?_)
  refine jr_iload hX dX6_lend_48 rfl ?_
  refine jr_iconst (v := 1) hX dX6_lend_50 (by decide) ?_
  refine jr_icmp_lt (tgt := 65) hX dX6_lend_51 (by decide) (fun c_51 => ?_) (fun c_51 => absurd h_y c_51)
  refine jr_aload_n hX dX6_lend_65 rfl ?_
  refine jr_iconst (v := 2) hX dX6_lend_66 (by decide) ?_
  refine jr_ret (jr_runV hX hSt kM_X6_57 (c_fail (jj_fl hX) hly) rfl rfl (ly_kMo hly) ⟨_, _, rfl, by decide⟩ dX6_lend_67 rfl ⟨jj_b1 rfl, jj_b1 rfl⟩ rfl) ?_
  exact jr_iret hX dX6_lend_70 rfl rfl ⟨rfl, rfl, rfl, rfl, rfl, rfl⟩
set_option maxHeartbeats 4000000 in
set_option maxRecDepth 100000 in
theorem m_lend_x7 {l : Launch} (hfl : l.stackTraces = false) {D : jj_D} {n : Nat} {K : jj_K} {I : jj_I} {P : jj_P} {G : jj_G} (hly : ly K P) {H M B N : Nat} {C : jj_I} {a : Nat} {b : Nat} {h : Nat} {g : Nat} {y : Int32} {t : Int32} (hs : sf 0 H M B N C) (hk : sk 0 H M B N C) (hm : ml 0 H M B N C I) (hz : mz M C I) (h_a : a < M) (h_b : b < M) (h_h : h < H) (h_g : g < 4) (h_ab : ¬ a = b) (h_y : 1 ≤ y) (h_t : t < C (aR 0) 0) :
    jj_Met l D yX6_lend (jj_ws yX6_lend cX6_lend 8 (some .int)) { frames := 2, cells := 0, slots := 0, locals := 43 } [.ref 150, .int (nI a), .int (nI b), .int (nI h), .int (nI g), .int y, .int t] n K I P G (jj_R (some (.int 0)) (n) (K) (jj_u (jj_u I 150 0 0) 150 0 2) (P) (G)) jj_noX := by
  refine jj_of hfl (by decide +kernel) [some (.ref 150), some (.int (nI a)), some (.int (nI b)), some (.int (nI h)), some (.int (nI g)), some (.int y), some (.int t), none] rfl rfl ?_
  intro X hXl hX hSt
  have z := sf_Z hs
  have hm0 : ml 0 H M B N C (jj_u I 150 0 0) := ml_th hm z
  have hz0 : mz M C (jj_u I 150 0 0) := mz_th hz
  have hH0 := hm0.1.1
  have hM0 := hm0.1.2.1
  have hB0 := hm0.1.2.2.1
  have hN0 := hm0.1.2.2.2
  have hH2 := hs.1.2
  have hM2 := z.1
  have hB2 := z.2.1
  have hN2 := z.2.2
  refine jr_aload_n hX dX6_lend_0 rfl ?_
  refine jr_iconst (v := 0) hX dX6_lend_1 (by decide) ?_
  refine jr_puti hX kF_X6_40 rfl (ly_kMo hly) (by decide) dX6_lend_2 ?_
  refine jr_aload_n hX dX6_lend_5 rfl ?_
  refine jr_iload_n hX dX6_lend_6 rfl ?_
  refine jr_ret (jr_runV hX hSt kM_X6_96 (c_isMerchant_ok (jj_fl hX) hly h_a hM0 (by omega)) rfl rfl (ly_kMo hly) ⟨_, _, rfl, by decide⟩ dX6_lend_7 rfl ⟨jj_b1 rfl, jj_b1 rfl⟩ rfl) ?_
  refine jr_if_eq (tgt := 37) hX dX6_lend_10 (by decide) (fun c_10 => absurd c_10 (by decide)) (fun c_10 => ?_)
  refine jr_aload_n hX dX6_lend_13 rfl ?_
  refine jr_iload_n hX dX6_lend_14 rfl ?_
  refine jr_ret (jr_runV hX hSt kM_X6_96 (c_isMerchant_ok (jj_fl hX) hly h_b hM0 (by omega)) rfl rfl (ly_kMo hly) ⟨_, _, rfl, by decide⟩ dX6_lend_15 rfl ⟨jj_b1 rfl, jj_b1 rfl⟩ rfl) ?_
  refine jr_if_eq (tgt := 37) hX dX6_lend_18 (by decide) (fun c_18 => absurd c_18 (by decide)) (fun c_18 => ?_)
  refine jr_aload_n hX dX6_lend_21 rfl ?_
  refine jr_iload_n hX dX6_lend_22 rfl ?_
  refine jr_ret (jr_runV hX hSt kM_X6_61 (c_isHarbour_ok (jj_fl hX) hly h_h hH0 (by omega)) rfl rfl (ly_kMo hly) ⟨_, _, rfl, by decide⟩ dX6_lend_23 rfl ⟨jj_b1 rfl, jj_b1 rfl⟩ rfl) ?_
  refine jr_if_eq (tgt := 37) hX dX6_lend_26 (by decide) (fun c_26 => absurd c_26 (by decide)) (fun c_26 => ?_)
  refine jr_iload hX dX6_lend_29 rfl ?_
  refine jr_ret (jr_runS hX hSt kM_X6_65 (c_isGood_ok (jj_fl hX) h_g) rfl rfl dX6_lend_31 rfl ⟨jj_b1 rfl, jj_b1 rfl⟩ rfl) ?_
  refine jr_if_ne (tgt := 43) hX dX6_lend_34 (by decide) (fun c_34 => ?_) (fun c_34 => absurd c_34 (by decide))
  refine jr_iload_n hX dX6_lend_43 rfl ?_
  refine jr_iload_n hX dX6_lend_44 rfl ?_
  refine jr_icmp_eq (tgt := 65) hX dX6_lend_45 (by decide) (fun c_45 => absurd (jm_n c_45 (by omega) (by omega)) h_ab) (fun c_45 => ?_)
  refine jr_iload hX dX6_lend_48 rfl ?_
  refine jr_iconst (v := 1) hX dX6_lend_50 (by decide) ?_
  refine jr_icmp_lt (tgt := 65) hX dX6_lend_51 (by decide) (fun c_51 => absurd c_51 (Int32.not_lt.mpr h_y)) (fun c_51 => ?_)
  refine jr_iload hX dX6_lend_54 rfl ?_
  refine jr_aload_n hX dX6_lend_56 rfl ?_
  refine jr_getr hX kF_X6_37 rfl (ly_kMo hly) (ly_p6_14 hly) dX6_lend_57 ?_
  refine jr_iconst (v := 0) hX dX6_lend_60 (by decide) ?_
  refine jr_iald hX (by first | with_reducible assumption | with_reducible exact ly_kWm hly (by first | assumption | omega) | with_reducible exact ly_kLd hly (by first | assumption | omega) | with_reducible exact ly_kIc hly (by first | assumption | omega) | with_reducible exact ly_kBe hly (by first | assumption | omega) | with_reducible exact ly_kPr hly (by first | assumption | omega) | with_reducible exact ly_kMt hly (by first | assumption | omega) (by first | assumption | omega) | with_reducible exact ly_kBc hly (by first | assumption | omega) (by first | assumption | omega) | with_reducible exact ly_k151 hly | with_reducible exact ly_k152 hly | with_reducible exact ly_k153 hly | with_reducible exact ly_k154 hly | with_reducible exact ly_k155 hly | with_reducible exact ly_k156 hly | with_reducible exact ly_k157 hly | with_reducible exact ly_k158 hly | with_reducible exact ly_k159 hly | with_reducible exact ly_k160 hly | with_reducible exact ly_kAh hly (by first | assumption | omega)) (show _ = nI 0 from rfl) (by omega) dX6_lend_61 ?_
  rw [ml_hDay hm0]
  refine jr_icmp_ge (tgt := 71) hX dX6_lend_62 (by decide) (fun c_62 => absurd c_62 (Int32.not_le.mpr h_t)) (fun c_62 => ?_)
  refine jr_aload_n hX dX6_lend_65 rfl ?_
  refine jr_iconst (v := 2) hX dX6_lend_66 (by decide) ?_
  refine jr_ret (jr_runV hX hSt kM_X6_57 (c_fail (jj_fl hX) hly) rfl rfl (ly_kMo hly) ⟨_, _, rfl, by decide⟩ dX6_lend_67 rfl ⟨jj_b1 rfl, jj_b1 rfl⟩ rfl) ?_
  exact jr_iret hX dX6_lend_70 rfl rfl ⟨rfl, rfl, rfl, rfl, rfl, rfl⟩
set_option maxHeartbeats 4000000 in
set_option maxRecDepth 100000 in
theorem m_lend_x8 {l : Launch} (hfl : l.stackTraces = false) {D : jj_D} {n : Nat} {K : jj_K} {I : jj_I} {P : jj_P} {G : jj_G} (hly : ly K P) {H M B N : Nat} {C : jj_I} {a : Nat} {b : Nat} {h : Nat} {g : Nat} {y : Int32} {t : Int32} (hs : sf 0 H M B N C) (hk : sk 0 H M B N C) (hm : ml 0 H M B N C I) (hz : mz M C I) (h_a : a < M) (h_b : b < M) (h_h : h < H) (h_g : g < 4) (h_ab : ¬ a = b) (h_y : 1 ≤ y) (h_t : C (aR 0) 0 ≤ t) (h_r : N = 30) :
    jj_Met l D yX6_lend (jj_ws yX6_lend cX6_lend 8 (some .int)) { frames := 2, cells := 0, slots := 0, locals := 43 } [.ref 150, .int (nI a), .int (nI b), .int (nI h), .int (nI g), .int y, .int t] n K I P G (jj_R (some (.int 0)) (n) (K) (jj_u (jj_u I 150 0 0) 150 0 3) (P) (G)) jj_noX := by
  refine jj_of hfl (by decide +kernel) [some (.ref 150), some (.int (nI a)), some (.int (nI b)), some (.int (nI h)), some (.int (nI g)), some (.int y), some (.int t), none] rfl rfl ?_
  intro X hXl hX hSt
  have z := sf_Z hs
  have hm0 : ml 0 H M B N C (jj_u I 150 0 0) := ml_th hm z
  have hz0 : mz M C (jj_u I 150 0 0) := mz_th hz
  have hH0 := hm0.1.1
  have hM0 := hm0.1.2.1
  have hB0 := hm0.1.2.2.1
  have hN0 := hm0.1.2.2.2
  have hH2 := hs.1.2
  have hM2 := z.1
  have hB2 := z.2.1
  have hN2 := z.2.2
  refine jr_aload_n hX dX6_lend_0 rfl ?_
  refine jr_iconst (v := 0) hX dX6_lend_1 (by decide) ?_
  refine jr_puti hX kF_X6_40 rfl (ly_kMo hly) (by decide) dX6_lend_2 ?_
  refine jr_aload_n hX dX6_lend_5 rfl ?_
  refine jr_iload_n hX dX6_lend_6 rfl ?_
  refine jr_ret (jr_runV hX hSt kM_X6_96 (c_isMerchant_ok (jj_fl hX) hly h_a hM0 (by omega)) rfl rfl (ly_kMo hly) ⟨_, _, rfl, by decide⟩ dX6_lend_7 rfl ⟨jj_b1 rfl, jj_b1 rfl⟩ rfl) ?_
  refine jr_if_eq (tgt := 37) hX dX6_lend_10 (by decide) (fun c_10 => absurd c_10 (by decide)) (fun c_10 => ?_)
  refine jr_aload_n hX dX6_lend_13 rfl ?_
  refine jr_iload_n hX dX6_lend_14 rfl ?_
  refine jr_ret (jr_runV hX hSt kM_X6_96 (c_isMerchant_ok (jj_fl hX) hly h_b hM0 (by omega)) rfl rfl (ly_kMo hly) ⟨_, _, rfl, by decide⟩ dX6_lend_15 rfl ⟨jj_b1 rfl, jj_b1 rfl⟩ rfl) ?_
  refine jr_if_eq (tgt := 37) hX dX6_lend_18 (by decide) (fun c_18 => absurd c_18 (by decide)) (fun c_18 => ?_)
  refine jr_aload_n hX dX6_lend_21 rfl ?_
  refine jr_iload_n hX dX6_lend_22 rfl ?_
  refine jr_ret (jr_runV hX hSt kM_X6_61 (c_isHarbour_ok (jj_fl hX) hly h_h hH0 (by omega)) rfl rfl (ly_kMo hly) ⟨_, _, rfl, by decide⟩ dX6_lend_23 rfl ⟨jj_b1 rfl, jj_b1 rfl⟩ rfl) ?_
  refine jr_if_eq (tgt := 37) hX dX6_lend_26 (by decide) (fun c_26 => absurd c_26 (by decide)) (fun c_26 => ?_)
  refine jr_iload hX dX6_lend_29 rfl ?_
  refine jr_ret (jr_runS hX hSt kM_X6_65 (c_isGood_ok (jj_fl hX) h_g) rfl rfl dX6_lend_31 rfl ⟨jj_b1 rfl, jj_b1 rfl⟩ rfl) ?_
  refine jr_if_ne (tgt := 43) hX dX6_lend_34 (by decide) (fun c_34 => ?_) (fun c_34 => absurd c_34 (by decide))
  refine jr_iload_n hX dX6_lend_43 rfl ?_
  refine jr_iload_n hX dX6_lend_44 rfl ?_
  refine jr_icmp_eq (tgt := 65) hX dX6_lend_45 (by decide) (fun c_45 => absurd (jm_n c_45 (by omega) (by omega)) h_ab) (fun c_45 => ?_)
  refine jr_iload hX dX6_lend_48 rfl ?_
  refine jr_iconst (v := 1) hX dX6_lend_50 (by decide) ?_
  refine jr_icmp_lt (tgt := 65) hX dX6_lend_51 (by decide) (fun c_51 => absurd c_51 (Int32.not_lt.mpr h_y)) (fun c_51 => ?_)
  refine jr_iload hX dX6_lend_54 rfl ?_
  refine jr_aload_n hX dX6_lend_56 rfl ?_
  refine jr_getr hX kF_X6_37 rfl (ly_kMo hly) (ly_p6_14 hly) dX6_lend_57 ?_
  refine jr_iconst (v := 0) hX dX6_lend_60 (by decide) ?_
  refine jr_iald hX (by first | with_reducible assumption | with_reducible exact ly_kWm hly (by first | assumption | omega) | with_reducible exact ly_kLd hly (by first | assumption | omega) | with_reducible exact ly_kIc hly (by first | assumption | omega) | with_reducible exact ly_kBe hly (by first | assumption | omega) | with_reducible exact ly_kPr hly (by first | assumption | omega) | with_reducible exact ly_kMt hly (by first | assumption | omega) (by first | assumption | omega) | with_reducible exact ly_kBc hly (by first | assumption | omega) (by first | assumption | omega) | with_reducible exact ly_k151 hly | with_reducible exact ly_k152 hly | with_reducible exact ly_k153 hly | with_reducible exact ly_k154 hly | with_reducible exact ly_k155 hly | with_reducible exact ly_k156 hly | with_reducible exact ly_k157 hly | with_reducible exact ly_k158 hly | with_reducible exact ly_k159 hly | with_reducible exact ly_k160 hly | with_reducible exact ly_kAh hly (by first | assumption | omega)) (show _ = nI 0 from rfl) (by omega) dX6_lend_61 ?_
  rw [ml_hDay hm0]
  refine jr_icmp_ge (tgt := 71) hX dX6_lend_62 (by decide) (fun c_62 => ?_) (fun c_62 => absurd h_t c_62)
  refine jr_aload_n hX dX6_lend_71 rfl ?_
  refine jr_geti hX kF_X6_106 rfl (ly_kMo hly) dX6_lend_72 ?_
  refine jr_bipush (v := 30) hX dX6_lend_75 (by decide) ?_
  rw [hN0]
  refine jr_icmp_eq (tgt := 97) hX dX6_lend_77 (by decide) (fun c_77 => ?_) (fun c_77 => absurd (by rw [h_r]; rfl) c_77)
  refine jr_aload_n hX dX6_lend_97 rfl ?_
  refine jr_iconst (v := 3) hX dX6_lend_98 (by decide) ?_
  refine jr_ret (jr_runV hX hSt kM_X6_57 (c_fail (jj_fl hX) hly) rfl rfl (ly_kMo hly) ⟨_, _, rfl, by decide⟩ dX6_lend_99 rfl ⟨jj_b1 rfl, jj_b1 rfl⟩ rfl) ?_
  exact jr_iret hX dX6_lend_102 rfl rfl ⟨rfl, rfl, rfl, rfl, rfl, rfl⟩
set_option maxHeartbeats 4000000 in
set_option maxRecDepth 100000 in
theorem m_lend_x9 {l : Launch} (hfl : l.stackTraces = false) {D : jj_D} {n : Nat} {K : jj_K} {I : jj_I} {P : jj_P} {G : jj_G} (hly : ly K P) {H M B N : Nat} {C : jj_I} {a : Nat} {b : Nat} {h : Nat} {g : Nat} {y : Int32} {t : Int32} (hs : sf 0 H M B N C) (hk : sk 0 H M B N C) (hm : ml 0 H M B N C I) (hz : mz M C I) (h_a : a < M) (h_b : b < M) (h_h : h < H) (h_g : g < 4) (h_ab : ¬ a = b) (h_y : 1 ≤ y) (h_t : C (aR 0) 0 ≤ t) (h_r : N < 30) (h_e : C (aMt 0 a) (h * 4 + g) < y) :
    jj_Met l D yX6_lend (jj_ws yX6_lend cX6_lend 8 (some .int)) { frames := 2, cells := 0, slots := 0, locals := 43 } [.ref 150, .int (nI a), .int (nI b), .int (nI h), .int (nI g), .int y, .int t] n K I P G (jj_R (some (.int 0)) (n) (K) (jj_u (jj_u I 150 0 0) 150 0 3) (P) (G)) jj_noX := by
  refine jj_of hfl (by decide +kernel) [some (.ref 150), some (.int (nI a)), some (.int (nI b)), some (.int (nI h)), some (.int (nI g)), some (.int y), some (.int t), none] rfl rfl ?_
  intro X hXl hX hSt
  have z := sf_Z hs
  have hm0 : ml 0 H M B N C (jj_u I 150 0 0) := ml_th hm z
  have hz0 : mz M C (jj_u I 150 0 0) := mz_th hz
  have hH0 := hm0.1.1
  have hM0 := hm0.1.2.1
  have hB0 := hm0.1.2.2.1
  have hN0 := hm0.1.2.2.2
  have hH2 := hs.1.2
  have hM2 := z.1
  have hB2 := z.2.1
  have hN2 := z.2.2
  have hx : 4 * h + g = h * 4 + g := by omega
  refine jr_aload_n hX dX6_lend_0 rfl ?_
  refine jr_iconst (v := 0) hX dX6_lend_1 (by decide) ?_
  refine jr_puti hX kF_X6_40 rfl (ly_kMo hly) (by decide) dX6_lend_2 ?_
  refine jr_aload_n hX dX6_lend_5 rfl ?_
  refine jr_iload_n hX dX6_lend_6 rfl ?_
  refine jr_ret (jr_runV hX hSt kM_X6_96 (c_isMerchant_ok (jj_fl hX) hly h_a hM0 (by omega)) rfl rfl (ly_kMo hly) ⟨_, _, rfl, by decide⟩ dX6_lend_7 rfl ⟨jj_b1 rfl, jj_b1 rfl⟩ rfl) ?_
  refine jr_if_eq (tgt := 37) hX dX6_lend_10 (by decide) (fun c_10 => absurd c_10 (by decide)) (fun c_10 => ?_)
  refine jr_aload_n hX dX6_lend_13 rfl ?_
  refine jr_iload_n hX dX6_lend_14 rfl ?_
  refine jr_ret (jr_runV hX hSt kM_X6_96 (c_isMerchant_ok (jj_fl hX) hly h_b hM0 (by omega)) rfl rfl (ly_kMo hly) ⟨_, _, rfl, by decide⟩ dX6_lend_15 rfl ⟨jj_b1 rfl, jj_b1 rfl⟩ rfl) ?_
  refine jr_if_eq (tgt := 37) hX dX6_lend_18 (by decide) (fun c_18 => absurd c_18 (by decide)) (fun c_18 => ?_)
  refine jr_aload_n hX dX6_lend_21 rfl ?_
  refine jr_iload_n hX dX6_lend_22 rfl ?_
  refine jr_ret (jr_runV hX hSt kM_X6_61 (c_isHarbour_ok (jj_fl hX) hly h_h hH0 (by omega)) rfl rfl (ly_kMo hly) ⟨_, _, rfl, by decide⟩ dX6_lend_23 rfl ⟨jj_b1 rfl, jj_b1 rfl⟩ rfl) ?_
  refine jr_if_eq (tgt := 37) hX dX6_lend_26 (by decide) (fun c_26 => absurd c_26 (by decide)) (fun c_26 => ?_)
  refine jr_iload hX dX6_lend_29 rfl ?_
  refine jr_ret (jr_runS hX hSt kM_X6_65 (c_isGood_ok (jj_fl hX) h_g) rfl rfl dX6_lend_31 rfl ⟨jj_b1 rfl, jj_b1 rfl⟩ rfl) ?_
  refine jr_if_ne (tgt := 43) hX dX6_lend_34 (by decide) (fun c_34 => ?_) (fun c_34 => absurd c_34 (by decide))
  refine jr_iload_n hX dX6_lend_43 rfl ?_
  refine jr_iload_n hX dX6_lend_44 rfl ?_
  refine jr_icmp_eq (tgt := 65) hX dX6_lend_45 (by decide) (fun c_45 => absurd (jm_n c_45 (by omega) (by omega)) h_ab) (fun c_45 => ?_)
  refine jr_iload hX dX6_lend_48 rfl ?_
  refine jr_iconst (v := 1) hX dX6_lend_50 (by decide) ?_
  refine jr_icmp_lt (tgt := 65) hX dX6_lend_51 (by decide) (fun c_51 => absurd c_51 (Int32.not_lt.mpr h_y)) (fun c_51 => ?_)
  refine jr_iload hX dX6_lend_54 rfl ?_
  refine jr_aload_n hX dX6_lend_56 rfl ?_
  refine jr_getr hX kF_X6_37 rfl (ly_kMo hly) (ly_p6_14 hly) dX6_lend_57 ?_
  refine jr_iconst (v := 0) hX dX6_lend_60 (by decide) ?_
  refine jr_iald hX (by first | with_reducible assumption | with_reducible exact ly_kWm hly (by first | assumption | omega) | with_reducible exact ly_kLd hly (by first | assumption | omega) | with_reducible exact ly_kIc hly (by first | assumption | omega) | with_reducible exact ly_kBe hly (by first | assumption | omega) | with_reducible exact ly_kPr hly (by first | assumption | omega) | with_reducible exact ly_kMt hly (by first | assumption | omega) (by first | assumption | omega) | with_reducible exact ly_kBc hly (by first | assumption | omega) (by first | assumption | omega) | with_reducible exact ly_k151 hly | with_reducible exact ly_k152 hly | with_reducible exact ly_k153 hly | with_reducible exact ly_k154 hly | with_reducible exact ly_k155 hly | with_reducible exact ly_k156 hly | with_reducible exact ly_k157 hly | with_reducible exact ly_k158 hly | with_reducible exact ly_k159 hly | with_reducible exact ly_k160 hly | with_reducible exact ly_kAh hly (by first | assumption | omega)) (show _ = nI 0 from rfl) (by omega) dX6_lend_61 ?_
  rw [ml_hDay hm0]
  refine jr_icmp_ge (tgt := 71) hX dX6_lend_62 (by decide) (fun c_62 => ?_) (fun c_62 => absurd h_t c_62)
  refine jr_aload_n hX dX6_lend_71 rfl ?_
  refine jr_geti hX kF_X6_106 rfl (ly_kMo hly) dX6_lend_72 ?_
  refine jr_bipush (v := 30) hX dX6_lend_75 (by decide) ?_
  rw [hN0]
  refine jr_icmp_eq (tgt := 97) hX dX6_lend_77 (by decide) (fun c_77 => absurd (jm_n (s := 30) c_77 (by omega) (by omega)) (by omega)) (fun c_77 => ?_)
  refine jr_aload_n hX dX6_lend_80 rfl ?_
  refine jr_getr hX kF_X6_28 rfl (ly_kMo hly) (ly_p6_11 hly) dX6_lend_81 ?_
  refine jr_iload_n hX dX6_lend_84 rfl ?_
  refine jr_iload_n hX dX6_lend_85 rfl ?_
  refine jr_iload hX dX6_lend_86 rfl ?_
  refine jr_ret (jr_runS hX hSt kM_X6_99 (c_at (jj_fl hX) (m := a) (h := h) (g := g) rfl rfl rfl) rfl rfl dX6_lend_88 rfl ⟨jj_b1 rfl, jj_b1 rfl⟩ rfl) ?_
  rw [hx]
  refine jr_iald hX (by first | with_reducible assumption | with_reducible exact ly_kWm hly (by first | assumption | omega) | with_reducible exact ly_kLd hly (by first | assumption | omega) | with_reducible exact ly_kIc hly (by first | assumption | omega) | with_reducible exact ly_kBe hly (by first | assumption | omega) | with_reducible exact ly_kPr hly (by first | assumption | omega) | with_reducible exact ly_kMt hly (by first | assumption | omega) (by first | assumption | omega) | with_reducible exact ly_kBc hly (by first | assumption | omega) (by first | assumption | omega) | with_reducible exact ly_k151 hly | with_reducible exact ly_k152 hly | with_reducible exact ly_k153 hly | with_reducible exact ly_k154 hly | with_reducible exact ly_k155 hly | with_reducible exact ly_k156 hly | with_reducible exact ly_k157 hly | with_reducible exact ly_k158 hly | with_reducible exact ly_k159 hly | with_reducible exact ly_k160 hly | with_reducible exact ly_kAh hly (by first | assumption | omega)) (by first | with_reducible rfl | with_reducible assumption | rfl) (by omega) dX6_lend_91 ?_
  rw [ml_hStock hm0 h_a (show h * 4 + g < 32 by omega)]
  refine jr_iload hX dX6_lend_92 rfl ?_
  refine jr_icmp_ge (tgt := 103) hX dX6_lend_94 (by decide) (fun c_94 => absurd c_94 (Int32.not_le.mpr h_e)) (fun c_94 => ?_)
  refine jr_aload_n hX dX6_lend_97 rfl ?_
  refine jr_iconst (v := 3) hX dX6_lend_98 (by decide) ?_
  refine jr_ret (jr_runV hX hSt kM_X6_57 (c_fail (jj_fl hX) hly) rfl rfl (ly_kMo hly) ⟨_, _, rfl, by decide⟩ dX6_lend_99 rfl ⟨jj_b1 rfl, jj_b1 rfl⟩ rfl) ?_
  exact jr_iret hX dX6_lend_102 rfl rfl ⟨rfl, rfl, rfl, rfl, rfl, rfl⟩
set_option maxHeartbeats 4000000 in
set_option maxRecDepth 100000 in
theorem m_lend_ok {l : Launch} (hfl : l.stackTraces = false) {D : jj_D} {n : Nat} {K : jj_K} {I : jj_I} {P : jj_P} {G : jj_G} (hly : ly K P) {H M B N : Nat} {C : jj_I} {a : Nat} {b : Nat} {h : Nat} {g : Nat} {y : Int32} {t : Int32} (hs : sf 0 H M B N C) (hk : sk 0 H M B N C) (hm : ml 0 H M B N C I) (hz : mz M C I) (h_a : a < M) (h_b : b < M) (h_h : h < H) (h_g : g < 4) (h_ab : ¬ a = b) (h_y : 1 ≤ y) (h_t : C (aR 0) 0 ≤ t) (h_r : N < 30) (h_e : y ≤ C (aMt 0 a) (h * 4 + g)) (hn : 161 ≤ n) (hKn : ∀ a, n ≤ a → K a = none) :
    jj_Met l D yX6_lend (jj_ws yX6_lend cX6_lend 8 (some .int)) { frames := 2, cells := 1, slots := 7, locals := 43 } [.ref 150, .int (nI a), .int (nI b), .int (nI h), .int (nI g), .int y, .int t] n K I P G (jj_RS (fun r J => r = some (.int (nI N)) ∧ J 150 0 = 0 ∧ ml 0 H M B (N + 1) (f_lend a b h g N y t C) J ∧ mz (M) (f_lend a b h g N y t C) J ∧ ∀ a, offN a → J a = I a) (n + 1) K P G) jj_noX := by
  refine jj_of hfl (by decide +kernel) [some (.ref 150), some (.int (nI a)), some (.int (nI b)), some (.int (nI h)), some (.int (nI g)), some (.int y), some (.int t), none] rfl rfl ?_
  intro X hXl hX hSt
  have z := sf_Z hs
  have hm0 : ml 0 H M B N C (jj_u I 150 0 0) := ml_th hm z
  have hz0 : mz M C (jj_u I 150 0 0) := mz_th hz
  have hH0 := hm0.1.1
  have hM0 := hm0.1.2.1
  have hB0 := hm0.1.2.2.1
  have hN0 := hm0.1.2.2.2
  have hH2 := hs.1.2
  have hM2 := z.1
  have hB2 := z.2.1
  have hN2 := z.2.2
  have hx : 4 * h + g = h * 4 + g := by omega
  have n150 : (150 : Nat) ≠ n := by omega
  have s1 := ml_uStock (m := a) (k := h * 4 + g) (v := C (aMt 0 a) (h * 4 + g) - y) hm0 z (by omega) (by omega)
  have s2 := ml_uStock (m := b) (k := h * 4 + g) (v := jj_u C (aMt 0 a) (h * 4 + g) (C (aMt 0 a) (h * 4 + g) - y) (aMt 0 b) (h * 4 + g) + y) s1 z (by omega) (by omega)
  refine jr_aload_n hX dX6_lend_0 rfl ?_
  refine jr_iconst (v := 0) hX dX6_lend_1 (by decide) ?_
  refine jr_puti hX kF_X6_40 rfl (ly_kMo hly) (by decide) dX6_lend_2 ?_
  refine jr_aload_n hX dX6_lend_5 rfl ?_
  refine jr_iload_n hX dX6_lend_6 rfl ?_
  refine jr_ret (jr_runV hX hSt kM_X6_96 (c_isMerchant_ok (jj_fl hX) hly h_a hM0 (by omega)) rfl rfl (ly_kMo hly) ⟨_, _, rfl, by decide⟩ dX6_lend_7 rfl ⟨jj_b1 rfl, jj_b1 rfl⟩ rfl) ?_
  refine jr_if_eq (tgt := 37) hX dX6_lend_10 (by decide) (fun c_10 => absurd c_10 (by decide)) (fun c_10 => ?_)
  refine jr_aload_n hX dX6_lend_13 rfl ?_
  refine jr_iload_n hX dX6_lend_14 rfl ?_
  refine jr_ret (jr_runV hX hSt kM_X6_96 (c_isMerchant_ok (jj_fl hX) hly h_b hM0 (by omega)) rfl rfl (ly_kMo hly) ⟨_, _, rfl, by decide⟩ dX6_lend_15 rfl ⟨jj_b1 rfl, jj_b1 rfl⟩ rfl) ?_
  refine jr_if_eq (tgt := 37) hX dX6_lend_18 (by decide) (fun c_18 => absurd c_18 (by decide)) (fun c_18 => ?_)
  refine jr_aload_n hX dX6_lend_21 rfl ?_
  refine jr_iload_n hX dX6_lend_22 rfl ?_
  refine jr_ret (jr_runV hX hSt kM_X6_61 (c_isHarbour_ok (jj_fl hX) hly h_h hH0 (by omega)) rfl rfl (ly_kMo hly) ⟨_, _, rfl, by decide⟩ dX6_lend_23 rfl ⟨jj_b1 rfl, jj_b1 rfl⟩ rfl) ?_
  refine jr_if_eq (tgt := 37) hX dX6_lend_26 (by decide) (fun c_26 => absurd c_26 (by decide)) (fun c_26 => ?_)
  refine jr_iload hX dX6_lend_29 rfl ?_
  refine jr_ret (jr_runS hX hSt kM_X6_65 (c_isGood_ok (jj_fl hX) h_g) rfl rfl dX6_lend_31 rfl ⟨jj_b1 rfl, jj_b1 rfl⟩ rfl) ?_
  refine jr_if_ne (tgt := 43) hX dX6_lend_34 (by decide) (fun c_34 => ?_) (fun c_34 => absurd c_34 (by decide))
  refine jr_iload_n hX dX6_lend_43 rfl ?_
  refine jr_iload_n hX dX6_lend_44 rfl ?_
  refine jr_icmp_eq (tgt := 65) hX dX6_lend_45 (by decide) (fun c_45 => absurd (jm_n c_45 (by omega) (by omega)) h_ab) (fun c_45 => ?_)
  refine jr_iload hX dX6_lend_48 rfl ?_
  refine jr_iconst (v := 1) hX dX6_lend_50 (by decide) ?_
  refine jr_icmp_lt (tgt := 65) hX dX6_lend_51 (by decide) (fun c_51 => absurd c_51 (Int32.not_lt.mpr h_y)) (fun c_51 => ?_)
  refine jr_iload hX dX6_lend_54 rfl ?_
  refine jr_aload_n hX dX6_lend_56 rfl ?_
  refine jr_getr hX kF_X6_37 rfl (ly_kMo hly) (ly_p6_14 hly) dX6_lend_57 ?_
  refine jr_iconst (v := 0) hX dX6_lend_60 (by decide) ?_
  refine jr_iald hX (by first | with_reducible assumption | with_reducible exact ly_kWm hly (by first | assumption | omega) | with_reducible exact ly_kLd hly (by first | assumption | omega) | with_reducible exact ly_kIc hly (by first | assumption | omega) | with_reducible exact ly_kBe hly (by first | assumption | omega) | with_reducible exact ly_kPr hly (by first | assumption | omega) | with_reducible exact ly_kMt hly (by first | assumption | omega) (by first | assumption | omega) | with_reducible exact ly_kBc hly (by first | assumption | omega) (by first | assumption | omega) | with_reducible exact ly_k151 hly | with_reducible exact ly_k152 hly | with_reducible exact ly_k153 hly | with_reducible exact ly_k154 hly | with_reducible exact ly_k155 hly | with_reducible exact ly_k156 hly | with_reducible exact ly_k157 hly | with_reducible exact ly_k158 hly | with_reducible exact ly_k159 hly | with_reducible exact ly_k160 hly | with_reducible exact ly_kAh hly (by first | assumption | omega)) (show _ = nI 0 from rfl) (by omega) dX6_lend_61 ?_
  rw [ml_hDay hm0]
  refine jr_icmp_ge (tgt := 71) hX dX6_lend_62 (by decide) (fun c_62 => ?_) (fun c_62 => absurd h_t c_62)
  refine jr_aload_n hX dX6_lend_71 rfl ?_
  refine jr_geti hX kF_X6_106 rfl (ly_kMo hly) dX6_lend_72 ?_
  refine jr_bipush (v := 30) hX dX6_lend_75 (by decide) ?_
  rw [hN0]
  refine jr_icmp_eq (tgt := 97) hX dX6_lend_77 (by decide) (fun c_77 => absurd (jm_n (s := 30) c_77 (by omega) (by omega)) (by omega)) (fun c_77 => ?_)
  refine jr_aload_n hX dX6_lend_80 rfl ?_
  refine jr_getr hX kF_X6_28 rfl (ly_kMo hly) (ly_p6_11 hly) dX6_lend_81 ?_
  refine jr_iload_n hX dX6_lend_84 rfl ?_
  refine jr_iload_n hX dX6_lend_85 rfl ?_
  refine jr_iload hX dX6_lend_86 rfl ?_
  refine jr_ret (jr_runS hX hSt kM_X6_99 (c_at (jj_fl hX) (m := a) (h := h) (g := g) rfl rfl rfl) rfl rfl dX6_lend_88 rfl ⟨jj_b1 rfl, jj_b1 rfl⟩ rfl) ?_
  rw [hx]
  refine jr_iald hX (by first | with_reducible assumption | with_reducible exact ly_kWm hly (by first | assumption | omega) | with_reducible exact ly_kLd hly (by first | assumption | omega) | with_reducible exact ly_kIc hly (by first | assumption | omega) | with_reducible exact ly_kBe hly (by first | assumption | omega) | with_reducible exact ly_kPr hly (by first | assumption | omega) | with_reducible exact ly_kMt hly (by first | assumption | omega) (by first | assumption | omega) | with_reducible exact ly_kBc hly (by first | assumption | omega) (by first | assumption | omega) | with_reducible exact ly_k151 hly | with_reducible exact ly_k152 hly | with_reducible exact ly_k153 hly | with_reducible exact ly_k154 hly | with_reducible exact ly_k155 hly | with_reducible exact ly_k156 hly | with_reducible exact ly_k157 hly | with_reducible exact ly_k158 hly | with_reducible exact ly_k159 hly | with_reducible exact ly_k160 hly | with_reducible exact ly_kAh hly (by first | assumption | omega)) (by first | with_reducible rfl | with_reducible assumption | rfl) (by omega) dX6_lend_91 ?_
  rw [ml_hStock hm0 h_a (show h * 4 + g < 32 by omega)]
  refine jr_iload hX dX6_lend_92 rfl ?_
  refine jr_icmp_ge (tgt := 103) hX dX6_lend_94 (by decide) (fun c_94 => ?_) (fun c_94 => absurd h_e c_94)
  refine jr_aload_n hX dX6_lend_103 rfl ?_
  refine jr_getr hX kF_X6_28 rfl (ly_kMo hly) (ly_p6_11 hly) dX6_lend_104 ?_
  refine jr_iload_n hX dX6_lend_107 rfl ?_
  refine jr_iload_n hX dX6_lend_108 rfl ?_
  refine jr_iload hX dX6_lend_109 rfl ?_
  refine jr_ret (jr_runS hX hSt kM_X6_99 (c_at (jj_fl hX) (m := a) (h := h) (g := g) rfl rfl rfl) rfl rfl dX6_lend_111 rfl ⟨jj_b1 rfl, jj_b1 rfl⟩ rfl) ?_
  rw [hx]
  refine jr_dup2 hX dX6_lend_114 rfl rfl ?_
  refine jr_iald hX (by first | with_reducible assumption | with_reducible exact ly_kWm hly (by first | assumption | omega) | with_reducible exact ly_kLd hly (by first | assumption | omega) | with_reducible exact ly_kIc hly (by first | assumption | omega) | with_reducible exact ly_kBe hly (by first | assumption | omega) | with_reducible exact ly_kPr hly (by first | assumption | omega) | with_reducible exact ly_kMt hly (by first | assumption | omega) (by first | assumption | omega) | with_reducible exact ly_kBc hly (by first | assumption | omega) (by first | assumption | omega) | with_reducible exact ly_k151 hly | with_reducible exact ly_k152 hly | with_reducible exact ly_k153 hly | with_reducible exact ly_k154 hly | with_reducible exact ly_k155 hly | with_reducible exact ly_k156 hly | with_reducible exact ly_k157 hly | with_reducible exact ly_k158 hly | with_reducible exact ly_k159 hly | with_reducible exact ly_k160 hly | with_reducible exact ly_kAh hly (by first | assumption | omega)) (by first | with_reducible rfl | with_reducible assumption | rfl) (by omega) dX6_lend_115 ?_
  rw [ml_hStock hm0 h_a (show h * 4 + g < 32 by omega)]
  refine jr_iload hX dX6_lend_116 rfl ?_
  refine jr_isub hX dX6_lend_118 ?_
  refine jr_iast hX (by first | with_reducible assumption | with_reducible exact ly_kWm hly (by first | assumption | omega) | with_reducible exact ly_kLd hly (by first | assumption | omega) | with_reducible exact ly_kIc hly (by first | assumption | omega) | with_reducible exact ly_kBe hly (by first | assumption | omega) | with_reducible exact ly_kPr hly (by first | assumption | omega) | with_reducible exact ly_kMt hly (by first | assumption | omega) (by first | assumption | omega) | with_reducible exact ly_kBc hly (by first | assumption | omega) (by first | assumption | omega) | with_reducible exact ly_k151 hly | with_reducible exact ly_k152 hly | with_reducible exact ly_k153 hly | with_reducible exact ly_k154 hly | with_reducible exact ly_k155 hly | with_reducible exact ly_k156 hly | with_reducible exact ly_k157 hly | with_reducible exact ly_k158 hly | with_reducible exact ly_k159 hly | with_reducible exact ly_k160 hly | with_reducible exact ly_kAh hly (by first | assumption | omega)) (by first | assumption | with_reducible exact aMt_0 | with_reducible exact aBc_0 | with_reducible exact aWm_0 | with_reducible exact aLd_0 | with_reducible exact aIc_0 | with_reducible exact aBe_0 | with_reducible exact aPr_0 | with_reducible exact aAh_0 | decide | omega) (by first | with_reducible rfl | with_reducible assumption | rfl) (by omega) dX6_lend_119 ?_
  refine jr_aload_n hX dX6_lend_120 rfl ?_
  refine jr_getr hX kF_X6_28 rfl (ly_kMo hly) (ly_p6_11 hly) dX6_lend_121 ?_
  refine jr_iload_n hX dX6_lend_124 rfl ?_
  refine jr_iload_n hX dX6_lend_125 rfl ?_
  refine jr_iload hX dX6_lend_126 rfl ?_
  refine jr_ret (jr_runS hX hSt kM_X6_99 (c_at (jj_fl hX) (m := b) (h := h) (g := g) rfl rfl rfl) rfl rfl dX6_lend_128 rfl ⟨jj_b1 rfl, jj_b1 rfl⟩ rfl) ?_
  rw [hx]
  refine jr_dup2 hX dX6_lend_131 rfl rfl ?_
  refine jr_iald hX (by first | with_reducible assumption | with_reducible exact ly_kWm hly (by first | assumption | omega) | with_reducible exact ly_kLd hly (by first | assumption | omega) | with_reducible exact ly_kIc hly (by first | assumption | omega) | with_reducible exact ly_kBe hly (by first | assumption | omega) | with_reducible exact ly_kPr hly (by first | assumption | omega) | with_reducible exact ly_kMt hly (by first | assumption | omega) (by first | assumption | omega) | with_reducible exact ly_kBc hly (by first | assumption | omega) (by first | assumption | omega) | with_reducible exact ly_k151 hly | with_reducible exact ly_k152 hly | with_reducible exact ly_k153 hly | with_reducible exact ly_k154 hly | with_reducible exact ly_k155 hly | with_reducible exact ly_k156 hly | with_reducible exact ly_k157 hly | with_reducible exact ly_k158 hly | with_reducible exact ly_k159 hly | with_reducible exact ly_k160 hly | with_reducible exact ly_kAh hly (by first | assumption | omega)) (by first | with_reducible rfl | with_reducible assumption | rfl) (by omega) dX6_lend_132 ?_
  rw [ml_hStock s1 h_b (show h * 4 + g < 32 by omega)]
  refine jr_iload hX dX6_lend_133 rfl ?_
  refine jr_iadd hX dX6_lend_135 ?_
  refine jr_iast hX (by first | with_reducible assumption | with_reducible exact ly_kWm hly (by first | assumption | omega) | with_reducible exact ly_kLd hly (by first | assumption | omega) | with_reducible exact ly_kIc hly (by first | assumption | omega) | with_reducible exact ly_kBe hly (by first | assumption | omega) | with_reducible exact ly_kPr hly (by first | assumption | omega) | with_reducible exact ly_kMt hly (by first | assumption | omega) (by first | assumption | omega) | with_reducible exact ly_kBc hly (by first | assumption | omega) (by first | assumption | omega) | with_reducible exact ly_k151 hly | with_reducible exact ly_k152 hly | with_reducible exact ly_k153 hly | with_reducible exact ly_k154 hly | with_reducible exact ly_k155 hly | with_reducible exact ly_k156 hly | with_reducible exact ly_k157 hly | with_reducible exact ly_k158 hly | with_reducible exact ly_k159 hly | with_reducible exact ly_k160 hly | with_reducible exact ly_kAh hly (by first | assumption | omega)) (by first | assumption | with_reducible exact aMt_0 | with_reducible exact aBc_0 | with_reducible exact aWm_0 | with_reducible exact aLd_0 | with_reducible exact aIc_0 | with_reducible exact aBe_0 | with_reducible exact aPr_0 | with_reducible exact aAh_0 | decide | omega) (by first | with_reducible rfl | with_reducible assumption | rfl) (by omega) dX6_lend_136 ?_
  refine jr_bipush (v := 7) hX dX6_lend_137 (by decide) ?_
  refine jr_newI hX kA_int (show _ = nI 7 from rfl) (by omega) dX6_lend_139 ⟨jj_b1 rfl, jj_b1 rfl⟩ ?_
  have K9 : jj_uK K n (10, 7) n = some (10, 7) := if_pos rfl
  have hly := ly_uK (kd := (10, 7)) hly hn
  refine jr_dup hX dX6_lend_141 rfl ?_
  refine jr_iconst (v := 0) hX dX6_lend_142 (by decide) ?_
  refine jr_iload_n hX dX6_lend_143 rfl ?_
  refine jr_iast hX K9 (by omega) (show _ = nI 0 from rfl) (by omega) dX6_lend_144 ?_
  refine jr_dup hX dX6_lend_145 rfl ?_
  refine jr_iconst (v := 1) hX dX6_lend_146 (by decide) ?_
  refine jr_iload_n hX dX6_lend_147 rfl ?_
  refine jr_iast hX K9 (by omega) (show _ = nI 1 from rfl) (by omega) dX6_lend_148 ?_
  refine jr_dup hX dX6_lend_149 rfl ?_
  refine jr_iconst (v := 2) hX dX6_lend_150 (by decide) ?_
  refine jr_iload_n hX dX6_lend_151 rfl ?_
  refine jr_iast hX K9 (by omega) (show _ = nI 2 from rfl) (by omega) dX6_lend_152 ?_
  refine jr_dup hX dX6_lend_153 rfl ?_
  refine jr_iconst (v := 3) hX dX6_lend_154 (by decide) ?_
  refine jr_iload hX dX6_lend_155 rfl ?_
  refine jr_iast hX K9 (by omega) (show _ = nI 3 from rfl) (by omega) dX6_lend_157 ?_
  refine jr_dup hX dX6_lend_158 rfl ?_
  refine jr_iconst (v := 4) hX dX6_lend_159 (by decide) ?_
  refine jr_iload hX dX6_lend_160 rfl ?_
  refine jr_iload hX dX6_lend_162 rfl ?_
  refine jr_bipush (v := 10) hX dX6_lend_164 (by decide) ?_
  refine jr_idiv hX dX6_lend_166 (by decide) ?_
  refine jr_iadd hX dX6_lend_167 ?_
  refine jr_iast hX K9 (by omega) (show _ = nI 4 from rfl) (by omega) dX6_lend_168 ?_
  refine jr_dup hX dX6_lend_169 rfl ?_
  refine jr_iconst (v := 5) hX dX6_lend_170 (by decide) ?_
  refine jr_iload hX dX6_lend_171 rfl ?_
  refine jr_iast hX K9 (by omega) (show _ = nI 5 from rfl) (by omega) dX6_lend_173 ?_
  refine jr_dup hX dX6_lend_174 rfl ?_
  refine jr_bipush (v := 6) hX dX6_lend_175 (by decide) ?_
  refine jr_iconst (v := 0) hX dX6_lend_177 (by decide) ?_
  refine jr_iast hX K9 (by omega) (show _ = nI 6 from rfl) (by omega) dX6_lend_178 ?_
  have es : (jj_u (jj_u (jj_u (jj_u (jj_u (jj_u (jj_u (jj_uR (jj_u (jj_u (jj_u I 150 0 0) 157 (32 * a + (h * 4 + g)) (C (aMt 0 a) (h * 4 + g) - y)) 157 (32 * b + (h * 4 + g)) (jj_u C (aMt 0 a) (h * 4 + g) (C (aMt 0 a) (h * 4 + g) - y) (aMt 0 b) (h * 4 + g) + y)) n (fun _ => 0)) n 0 (nI a)) n 1 (nI b)) n 2 (nI h)) n 3 (nI g)) n 4 (y + y / 10)) n 5 t) n 6 0) = f_s7 n a b h g y t (jj_u (jj_u (jj_u I 150 0 0) 157 (32 * a + (h * 4 + g)) (C (aMt 0 a) (h * 4 + g) - y)) 157 (32 * b + (h * 4 + g)) (jj_u C (aMt 0 a) (h * 4 + g) (C (aMt 0 a) (h * 4 + g) - y) (aMt 0 b) (h * 4 + g) + y)) := rfl
  rw [es]
  refine jr_astore hX dX6_lend_179 rfl ?_
  refine jr_aload hX dX6_lend_181 rfl ?_
  refine jr_iconst (v := 0) hX dX6_lend_183 (by decide) ?_
  refine jr_aload_n hX dX6_lend_184 rfl ?_
  refine jr_getr hX kF_X6_34 rfl (ly_kMo hly) (ly_p6_13 hly) dX6_lend_185 ?_
  refine jr_bipush (v := 7) hX dX6_lend_188 (by decide) ?_
  refine jr_aload_n hX dX6_lend_190 rfl ?_
  refine jr_geti hX kF_X6_106 rfl (ly_kMo hly) dX6_lend_191 ?_
  rw [s7_ne n150, jj_u_ne (show (150 : Nat) ≠ 157 by decide), jj_u_ne (show (150 : Nat) ≠ 157 by decide), hN0]
  refine jr_imul hX dX6_lend_194 ?_
  refine jr_bipush (v := 7) hX dX6_lend_195 (by decide) ?_
  refine jr_copy hX kM_X6_115 K9 (ly_k159 hly) (by decide) (show _ = nI 0 from rfl) (show _ = nI (7 * N) from by rw [show (7 : Int32) = nI 7 from rfl, pk_mul]) (show _ = nI 7 from rfl) (by omega) dX6_lend_197 rfl ?_
  refine jr_aload_n hX dX6_lend_200 rfl ?_
  refine jr_dup hX dX6_lend_201 rfl ?_
  refine jr_geti hX kF_X6_106 rfl (ly_kMo hly) dX6_lend_202 ?_
  rw [jj_uR_ne (show (150 : Nat) ≠ 159 by decide), s7_ne n150, jj_u_ne (show (150 : Nat) ≠ 157 by decide), jj_u_ne (show (150 : Nat) ≠ 157 by decide), hN0]
  refine jr_iconst (v := 1) hX dX6_lend_205 (by decide) ?_
  refine jr_iadd hX dX6_lend_206 ?_
  rw [nI_1]
  refine jr_puti hX kF_X6_106 rfl (ly_kMo hly) (by decide) dX6_lend_207 ?_
  refine jr_aload_n hX dX6_lend_210 rfl ?_
  refine jr_geti hX kF_X6_106 rfl (ly_kMo hly) dX6_lend_211 ?_
  rw [jj_u_eq]
  refine jr_iconst (v := 1) hX dX6_lend_214 (by decide) ?_
  refine jr_isub hX dX6_lend_215 ?_
  rw [nI_pred]
  refine jr_cl1 (f := I n) (hKn n (Nat.le_refl _)) ?_
  exact jr_iret hX dX6_lend_216 rfl rfl ⟨⟨rfl, by rw [jj_uR_ne (by omega)]; (show f_leI n a b h g N y t (jj_u (jj_u (jj_u I 150 0 0) 157 (32 * a + (h * 4 + g)) (C (aMt 0 a) (h * 4 + g) - y)) 157 (32 * b + (h * 4 + g)) (jj_u C (aMt 0 a) (h * 4 + g) (C (aMt 0 a) (h * 4 + g) - y) (aMt 0 b) (h * 4 + g) + y)) 150 0 = 0); unfold f_leI; rw [jj_u_nk (by decide), jj_uR_ne (by decide), s7_ne n150, jj_u_ne (show (150 : Nat) ≠ 157 by decide), jj_u_ne (show (150 : Nat) ≠ 157 by decide), jj_u_eq], ml_lend s2 z hn h_r _, mz_cg hz0 (fun m2 _ _ => by rw [jj_uR_ne (by omega)]; refine (congrFun (le_ne (n := n) (a := a) (b := b) (h := h) (g := g) (N := N) (y := y) (t := t) (S := (jj_u (jj_u (jj_u I 150 0 0) 157 (32 * a + (h * 4 + g)) (C (aMt 0 a) (h * 4 + g) - y)) 157 (32 * b + (h * 4 + g)) (jj_u C (aMt 0 a) (h * 4 + g) (C (aMt 0 a) (h * 4 + g) - y) (aMt 0 b) (h * 4 + g) + y))) (by omega) (by decide) (by decide)) _).trans ?_; rw [jj_u_ne (by decide), jj_u_ne (by decide)]) (fun m2 k _ _ _ => by rw [jj_uR_ne (by omega)]; refine (congrFun (le_ne (n := n) (a := a) (b := b) (h := h) (g := g) (N := N) (y := y) (t := t) (S := (jj_u (jj_u (jj_u I 150 0 0) 157 (32 * a + (h * 4 + g)) (C (aMt 0 a) (h * 4 + g) - y)) 157 (32 * b + (h * 4 + g)) (jj_u C (aMt 0 a) (h * 4 + g) (C (aMt 0 a) (h * 4 + g) - y) (aMt 0 b) (h * 4 + g) + y))) (by omega) (by decide) (by decide)) _).trans ?_; rw [jj_u_nk (by omega), jj_u_nk (by omega)]) (fun m2 _ _ => by unfold f_lend f_op f_hd; (try dsimp only); rw [jj_u_ne (by simp only [aMt, aW]; omega), jj_u_ne (by simp only [aMt, aD]; omega), jj_u_ne (by simp only [aMt, aD]; omega), jj_u_ne (by simp only [aMt, aD]; omega), jj_u_ne (by simp only [aMt, aD]; omega), jj_u_ne (by simp only [aMt, aD]; omega), jj_u_ne (by simp only [aMt, aD]; omega), jj_u_ne (by simp only [aMt, aD]; omega), jj_u_ne (by simp only [aMt]; omega), jj_u_ne (by simp only [aMt]; omega)]), fun x hx2 => by
    by_cases e : x = n
    · subst e; rw [jj_uR_eq]
    · unfold offN at hx2
      rw [jj_uR_ne e]
      refine (le_ne (n := n) (a := a) (b := b) (h := h) (g := g) (N := N) (y := y) (t := t) (S := (jj_u (jj_u (jj_u I 150 0 0) 157 (32 * a + (h * 4 + g)) (C (aMt 0 a) (h * 4 + g) - y)) 157 (32 * b + (h * 4 + g)) (jj_u C (aMt 0 a) (h * 4 + g) (C (aMt 0 a) (h * 4 + g) - y) (aMt 0 b) (h * 4 + g) + y))) e (by omega) (by omega)).trans ?_
      rw [jj_u_ne (by omega), jj_u_ne (by omega), jj_u_ne (by omega)]⟩, rfl, rfl, rfl, rfl⟩
