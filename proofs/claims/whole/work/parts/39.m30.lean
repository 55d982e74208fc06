/-! building -/
def f_s12 (n m h : Nat) (y : Int32) (S : jj_I) : jj_I := (jj_u (jj_u (jj_u (jj_u (jj_u (jj_u (jj_u (jj_u (jj_u (jj_u (jj_u (jj_u (jj_uR S n (fun _ => 0)) n 0 (nI m)) n 1 20) n 2 y) n 3 0) n 4 (nI h)) n 5 (nI h)) n 6 0) n 7 (-1)) n 8 0) n 9 0) n 10 0) n 11 0)
theorem s12_ne {n m h a : Nat} {y : Int32} {S : jj_I} (e : a ≠ n) : f_s12 n m h y S a = S a := by
  unfold f_s12
  rw [jj_u_ne e, jj_u_ne e, jj_u_ne e, jj_u_ne e, jj_u_ne e, jj_u_ne e, jj_u_ne e, jj_u_ne e, jj_u_ne e, jj_u_ne e, jj_u_ne e, jj_u_ne e, jj_uR_ne e]
def f_bdI (n m h B : Nat) (y : Int32) (S : jj_I) : jj_I := jj_u (jj_uR (f_s12 n m h y S) 158 (va_cpy (f_s12 n m h y S n) (f_s12 n m h y S 158) 0 (12 * B) 12)) 150 7 (nI (B + 1))
theorem bd_ne {n m h B a : Nat} {y : Int32} {S : jj_I} (e : a ≠ n) (e1 : a ≠ 158) (e2 : a ≠ 150) : f_bdI n m h B y S a = S a := by
  unfold f_bdI
  rw [jj_u_ne e2, jj_uR_ne e1, s12_ne e]
theorem ml_build {H M B N n m h : Nat} {y : Int32} {C S : jj_I} (hm : ml 0 H M B N C S) (z : mlZ M B N) (hn : 161 ≤ n) (hB : B < 10) (f7 : C (aB 0 B) 7 = 0) (fc : ∀ g, g < 4 → C (aBc 0 B) g = 0) (f : Nat → Int32) : ml 0 H M (B + 1) N (jj_u (f_la 0 B (nI m) (nI h) y C) (aW 0) 2 (nI (B + 1))) (jj_uR (f_bdI n m h B y S) n f) := by
  have z2 : mlZ M (B + 1) N := ⟨z.1, by omega, z.2.2⟩
  have hv : ∀ s, s < 12 → jj_uR S 158 (va_cpy (f_s12 n m h y S n) (S 158) 0 (12 * B) 12) 158 (12 * B + s) = f_s12 n m h y S n s := fun s hs => by
    rw [jj_uR_eq, pk_cpy_in (by omega) (by omega), show 0 + (12 * B + s - 12 * B) = s by omega]
  have hne : aBc 0 B ≠ aB 0 B := by simp only [aB, aBc]; omega
  have nb : mlB 0 (f_la 0 B (nI m) (nI h) y C) (jj_uR S 158 (va_cpy (f_s12 n m h y S n) (S 158) 0 (12 * B) 12)) B := by
    unfold mlB
    rw [hv 0 (by decide), hv 1 (by decide), hv 2 (by decide), hv 3 (by decide), hv 4 (by decide), hv 5 (by decide), hv 6 (by decide), hv 7 (by decide)]
    refine ⟨by simp [f_s12, f_la, jj_u], by simp [f_s12, f_la, jj_u], by simp [f_s12, f_la, jj_u], by simp [f_s12, f_la, jj_u], by simp [f_s12, f_la, jj_u], by simp [f_s12, f_la, jj_u], ?_, fun e => ?_, fun g hg => ?_⟩
    · have e7 : f_la 0 B (nI m) (nI h) y C (aB 0 B) 7 = 0 := by simp [f_la, jj_u, f7]
      rw [e7]
      simp [f_s12, jj_u]
    · exact absurd e (by simp [f_la, jj_u])
    · rw [hv (8 + g) (by omega)]
      have ec : f_la 0 B (nI m) (nI h) y C (aBc 0 B) g = 0 := by
        unfold f_la
        rw [jj_u_ne hne, jj_u_ne hne, jj_u_ne hne, jj_u_ne hne, jj_u_ne hne, jj_u_ne hne]
        exact fc g hg
      rw [ec]
      have hg4 : g = 0 ∨ g = 1 ∨ g = 2 ∨ g = 3 := by omega
      rcases hg4 with rfl | rfl | rfl | rfl <;> simp [f_s12, jj_u]
  have s1 : ml 0 H M B N (f_la 0 B (nI m) (nI h) y C) (jj_uR S 158 (va_cpy (f_s12 n m h y S n) (S 158) 0 (12 * B) 12)) := ml_uB (k := B) hm z hB (fun a e _ => by unfold f_la; rw [jj_u_ne e, jj_u_ne e, jj_u_ne e, jj_u_ne e, jj_u_ne e, jj_u_ne e]) (fun a e => jj_uR_ne e) (fun s e => by rw [jj_uR_eq, pk_cpy_out (by omega)]) nb
  have s2 := ml_uW (M2 := M) (B2 := B + 1) (N2 := N) (s := 7) (s2 := 2) (y := B + 1) s1 z2 (fun _ _ _ => trivial) ⟨by rw [jj_u_nk (by decide)]; exact s1.1.1, by rw [jj_u_nk (by decide)]; exact s1.1.2.1, jj_u_eq, by rw [jj_u_nk (by decide)]; exact s1.1.2.2.2⟩ (fun m0 hm0 => ⟨ml_hCoin s1 hm0, fun k hk => ml_hStock s1 hm0 hk⟩) (fun b hb => by
    by_cases e : b = B
    · subst e; exact nb
    · exact ml_hB s1 (by omega)) (fun d hd k hk => ml_hDebt s1 hd hk)
  refine ml_cg (fun _ _ _ => rfl) (fun a h1 h2 => ⟨fun e => ?_, fun e => ?_⟩) z2 s2
  · subst e
    rw [jj_uR_ne (by omega)]
    unfold f_bdI
    refine ⟨?_, ?_, ?_, ?_⟩
    · rw [jj_u_nk (by decide), jj_u_nk (by decide), jj_uR_ne (by decide), jj_uR_ne (by decide), s12_ne (by omega)]
    · rw [jj_u_nk (by decide), jj_u_nk (by decide), jj_uR_ne (by decide), jj_uR_ne (by decide), s12_ne (by omega)]
    · rw [jj_u_eq, jj_u_eq]
    · rw [jj_u_nk (by decide), jj_u_nk (by decide), jj_uR_ne (by decide), jj_uR_ne (by decide), s12_ne (by omega)]
  · rw [jj_uR_ne (by omega)]
    by_cases e8 : a = 158
    · subst e8
      unfold f_bdI
      rw [jj_u_ne (by decide), jj_u_ne (by decide), jj_uR_eq, jj_uR_eq, s12_ne (show (158 : Nat) ≠ n by omega)]
    · rw [bd_ne (by omega) e8 e, jj_u_ne e, jj_uR_ne e8]
set_option maxHeartbeats 4000000 in
set_option maxRecDepth 100000 in
theorem m_build_x1 {l : Launch} (hfl : l.stackTraces = false) {D : jj_D} {n : Nat} {K : jj_K} {I : jj_I} {P : jj_P} {G : jj_G} (hly : ly K P) {H M B N : Nat} {C : jj_I} {m : Int32} {h : Int32} {y : Int32} (hs : sf 0 H M B N C) (hk : sk 0 H M B N C) (hm : ml 0 H M B N C I) (hz : mz M C I) (h_m : m < 0 ∨ nI M ≤ m) :
    jj_Met l D yX6_build (jj_ws yX6_build cX6_build 5 (some .int)) { frames := 2, cells := 0, slots := 0, locals := 43 } [.ref 150, .int m, .int h, .int y] n K I P G (jj_R (some (.int 0)) (n) (K) (jj_u (jj_u I 150 0 0) 150 0 1) (P) (G)) jj_noX := by
  refine jj_of hfl (by decide +kernel) [some (.ref 150), some (.int m), some (.int h), some (.int y), none] rfl rfl ?_
  intro X hXl hX hSt
  have z := sf_Z hs
  have hm0 : ml 0 H M B N C (jj_u I 150 0 0) := ml_th hm z
  have hz0 : mz M C (jj_u I 150 0 0) := mz_th hz
  have hH0 := hm0.1.1
  have hM0 := hm0.1.2.1
  have hB0 := hm0.1.2.2.1
  have hN0 := hm0.1.2.2.2
  have hH2 := hs.1.2
  have hM2 := z.1
  have hB2 := z.2.1
  have hN2 := z.2.2
  refine jr_aload_n hX dX6_build_0 rfl ?_
  refine jr_iconst (v := 0) hX dX6_build_1 (by decide) ?_
  refine jr_puti hX kF_X6_40 rfl (ly_kMo hly) (by decide) dX6_build_2 ?_
  refine jr_aload_n hX dX6_build_5 rfl ?_
  refine jr_iload_n hX dX6_build_6 rfl ?_
  refine jr_ret (jr_runV hX hSt kM_X6_96 (c_isMerchant_x (jj_fl hX) hly h_m hM0 (by omega)) rfl rfl (ly_kMo hly) ⟨_, _, rfl, by decide⟩ dX6_build_7 rfl ⟨jj_b1 rfl, jj_b1 rfl⟩ rfl) ?_
  refine jr_if_eq (tgt := 21) hX dX6_build_10 (by decide) (fun c_10 => ?_) (fun c_10 => absurd rfl c_10)
  refine jr_aload_n hX dX6_build_21 rfl ?_
  refine jr_iconst (v := 1) hX dX6_build_22 (by decide) ?_
  refine jr_ret (jr_runV hX hSt kM_X6_57 (c_fail (jj_fl hX) hly) rfl rfl (ly_kMo hly) ⟨_, _, rfl, by decide⟩ dX6_build_23 rfl ⟨jj_b1 rfl, jj_b1 rfl⟩ rfl) ?_
  exact jr_iret hX dX6_build_26 rfl rfl ⟨rfl, rfl, rfl, rfl, rfl, rfl⟩
set_option maxHeartbeats 4000000 in
set_option maxRecDepth 100000 in
theorem m_build_x2 {l : Launch} (hfl : l.stackTraces = false) {D : jj_D} {n : Nat} {K : jj_K} {I : jj_I} {P : jj_P} {G : jj_G} (hly : ly K P) {H M B N : Nat} {C : jj_I} {m : Nat} {h : Int32} {y : Int32} (hs : sf 0 H M B N C) (hk : sk 0 H M B N C) (hm : ml 0 H M B N C I) (hz : mz M C I) (h_m : m < M) (h_h : h < 0 ∨ nI H ≤ h) :
    jj_Met l D yX6_build (jj_ws yX6_build cX6_build 5 (some .int)) { frames := 2, cells := 0, slots := 0, locals := 43 } [.ref 150, .int (nI m), .int h, .int y] n K I P G (jj_R (some (.int 0)) (n) (K) (jj_u (jj_u I 150 0 0) 150 0 1) (P) (G)) jj_noX := by
  refine jj_of hfl (by decide +kernel) [some (.ref 150), some (.int (nI m)), some (.int h), some (.int y), none] rfl rfl ?_
  intro X hXl hX hSt
  have z := sf_Z hs
  have hm0 : ml 0 H M B N C (jj_u I 150 0 0) := ml_th hm z
  have hz0 : mz M C (jj_u I 150 0 0) := mz_th hz
  have hH0 := hm0.1.1
  have hM0 := hm0.1.2.1
  have hB0 := hm0.1.2.2.1
  have hN0 := hm0.1.2.2.2
  have hH2 := hs.1.2
  have hM2 := z.1
  have hB2 := z.2.1
  have hN2 := z.2.2
  refine jr_aload_n hX dX6_build_0 rfl ?_
  refine jr_iconst (v := 0) hX dX6_build_1 (by decide) ?_
  refine jr_puti hX kF_X6_40 rfl (ly_kMo hly) (by decide) dX6_build_2 ?_
  refine jr_aload_n hX dX6_build_5 rfl ?_
  refine jr_iload_n hX dX6_build_6 rfl ?_
  refine jr_ret (jr_runV hX hSt kM_X6_96 (c_isMerchant_ok (jj_fl hX) hly h_m hM0 (by omega)) rfl rfl (ly_kMo hly) ⟨_, _, rfl, by decide⟩ dX6_build_7 rfl ⟨jj_b1 rfl, jj_b1 rfl⟩ rfl) ?_
  refine jr_if_eq (tgt := 21) hX dX6_build_10 (by decide) (fun c_10 => absurd c_10 (by decide)) (fun c_10 => ?_)
  refine jr_aload_n hX dX6_build_13 rfl ?_
  refine jr_iload_n hX dX6_build_14 rfl ?_
  refine jr_ret (jr_runV hX hSt kM_X6_61 (c_isHarbour_x (jj_fl hX) hly h_h hH0 (by omega)) rfl rfl (ly_kMo hly) ⟨_, _, rfl, by decide⟩ dX6_build_15 rfl ⟨jj_b1 rfl, jj_b1 rfl⟩ rfl) ?_
  refine jr_if_ne (tgt := 27) hX dX6_build_18 (by decide) (fun c_18 => absurd rfl c_18) (fun c_18 => ?_)
  refine jr_aload_n hX dX6_build_21 rfl ?_
  refine jr_iconst (v := 1) hX dX6_build_22 (by decide) ?_
  refine jr_ret (jr_runV hX hSt kM_X6_57 (c_fail (jj_fl hX) hly) rfl rfl (ly_kMo hly) ⟨_, _, rfl, by decide⟩ dX6_build_23 rfl ⟨jj_b1 rfl, jj_b1 rfl⟩ rfl) ?_
  exact jr_iret hX dX6_build_26 rfl rfl ⟨rfl, rfl, rfl, rfl, rfl, rfl⟩
set_option maxHeartbeats 4000000 in
set_option maxRecDepth 100000 in
theorem m_build_x3 {l : Launch} (hfl : l.stackTraces = false) {D : jj_D} {n : Nat} {K : jj_K} {I : jj_I} {P : jj_P} {G : jj_G} (hly : ly K P) {H M B N : Nat} {C : jj_I} {m : Nat} {h : Nat} {y : Int32} (hs : sf 0 H M B N C) (hk : sk 0 H M B N C) (hm : ml 0 H M B N C I) (hz : mz M C I) (h_m : m < M) (h_h : h < H) (h_y : y < 1 ∨ 60 < y) :
    jj_Met l D yX6_build (jj_ws yX6_build cX6_build 5 (some .int)) { frames := 2, cells := 0, slots := 0, locals := 43 } [.ref 150, .int (nI m), .int (nI h), .int y] n K I P G (jj_R (some (.int 0)) (n) (K) (jj_u (jj_u I 150 0 0) 150 0 2) (P) (G)) jj_noX := by
  refine jj_of hfl (by decide +kernel) [some (.ref 150), some (.int (nI m)), some (.int (nI h)), some (.int y), none] rfl rfl ?_
  intro X hXl hX hSt
  have z := sf_Z hs
  have hm0 : ml 0 H M B N C (jj_u I 150 0 0) := ml_th hm z
  have hz0 : mz M C (jj_u I 150 0 0) := mz_th hz
  have hH0 := hm0.1.1
  have hM0 := hm0.1.2.1
  have hB0 := hm0.1.2.2.1
  have hN0 := hm0.1.2.2.2
  have hH2 := hs.1.2
  have hM2 := z.1
  have hB2 := z.2.1
  have hN2 := z.2.2
  refine jr_aload_n hX dX6_build_0 rfl ?_
  refine jr_iconst (v := 0) hX dX6_build_1 (by decide) ?_
  refine jr_puti hX kF_X6_40 rfl (ly_kMo hly) (by decide) dX6_build_2 ?_
  refine jr_aload_n hX dX6_build_5 rfl ?_
  refine jr_iload_n hX dX6_build_6 rfl ?_
  refine jr_ret (jr_runV hX hSt kM_X6_96 (c_isMerchant_ok (jj_fl hX) hly h_m hM0 (by omega)) rfl rfl (ly_kMo hly) ⟨_, _, rfl, by decide⟩ dX6_build_7 rfl ⟨jj_b1 rfl, jj_b1 rfl⟩ rfl) ?_
  refine jr_if_eq (tgt := 21) hX dX6_build_10 (by decide) (fun c_10 => absurd c_10 (by decide)) (fun c_10 => ?_)
  refine jr_aload_n hX dX6_build_13 rfl ?_
  refine jr_iload_n hX dX6_build_14 rfl ?_
  refine jr_ret (jr_runV hX hSt kM_X6_61 (c_isHarbour_ok (jj_fl hX) hly h_h hH0 (by omega)) rfl rfl (ly_kMo hly) ⟨_, _, rfl, by decide⟩ dX6_build_15 rfl ⟨jj_b1 rfl, jj_b1 rfl⟩ rfl) ?_
  refine jr_if_ne (tgt := 27) hX dX6_build_18 (by decide) (fun c_18 => ?_) (fun c_18 => absurd c_18 (by decide))
  refine jr_iload_n hX dX6_build_27 rfl ?_
  refine jr_iconst (v := 1) hX dX6_build_28 (by decide) ?_
  refine jr_bipush (v := 60) hX dX6_build_29 (by decide) ?_
  refine jr_ret (jr_runS hX hSt kM_X6_47 (c_isIn_x (jj_fl hX) (jm_nr h_y)) rfl rfl dX6_build_31 rfl ⟨jj_b1 rfl, jj_b1 rfl⟩ rfl) ?_
  refine jr_if_ne (tgt := 43) hX dX6_build_34 (by decide) (fun c_34 => absurd rfl c_34) (fun c_34 => ?_)
  refine jr_aload_n hX dX6_build_37 rfl ?_
  refine jr_iconst (v := 2) hX dX6_build_38 (by decide) ?_
  refine jr_ret (jr_runV hX hSt kM_X6_57 (c_fail (jj_fl hX) hly) rfl rfl (ly_kMo hly) ⟨_, _, rfl, by decide⟩ dX6_build_39 rfl ⟨jj_b1 rfl, jj_b1 rfl⟩ rfl) ?_
  exact jr_iret hX dX6_build_42 rfl rfl ⟨rfl, rfl, rfl, rfl, rfl, rfl⟩
set_option maxHeartbeats 4000000 in
set_option maxRecDepth 100000 in
theorem m_build_x4 {l : Launch} (hfl : l.stackTraces = false) {D : jj_D} {n : Nat} {K : jj_K} {I : jj_I} {P : jj_P} {G : jj_G} (hly : ly K P) {H M B N : Nat} {C : jj_I} {m : Nat} {h : Nat} {y : Int32} (hs : sf 0 H M B N C) (hk : sk 0 H M B N C) (hm : ml 0 H M B N C I) (hz : mz M C I) (h_m : m < M) (h_h : h < H) (h_y : 1 ≤ y ∧ y ≤ 60) (h_r : B = 10) :
    jj_Met l D yX6_build (jj_ws yX6_build cX6_build 5 (some .int)) { frames := 2, cells := 0, slots := 0, locals := 43 } [.ref 150, .int (nI m), .int (nI h), .int y] n K I P G (jj_R (some (.int 0)) (n) (K) (jj_u (jj_u I 150 0 0) 150 0 3) (P) (G)) jj_noX := by
  refine jj_of hfl (by decide +kernel) [some (.ref 150), some (.int (nI m)), some (.int (nI h)), some (.int y), none] rfl rfl ?_
  intro X hXl hX hSt
  have z := sf_Z hs
  have hm0 : ml 0 H M B N C (jj_u I 150 0 0) := ml_th hm z
  have hz0 : mz M C (jj_u I 150 0 0) := mz_th hz
  have hH0 := hm0.1.1
  have hM0 := hm0.1.2.1
  have hB0 := hm0.1.2.2.1
  have hN0 := hm0.1.2.2.2
  have hH2 := hs.1.2
  have hM2 := z.1
  have hB2 := z.2.1
  have hN2 := z.2.2
  refine jr_aload_n hX dX6_build_0 rfl ?_
  refine jr_iconst (v := 0) hX dX6_build_1 (by decide) ?_
  refine jr_puti hX kF_X6_40 rfl (ly_kMo hly) (by decide) dX6_build_2 ?_
  refine jr_aload_n hX dX6_build_5 rfl ?_
  refine jr_iload_n hX dX6_build_6 rfl ?_
  refine jr_ret (jr_runV hX hSt kM_X6_96 (c_isMerchant_ok (jj_fl hX) hly h_m hM0 (by omega)) rfl rfl (ly_kMo hly) ⟨_, _, rfl, by decide⟩ dX6_build_7 rfl ⟨jj_b1 rfl, jj_b1 rfl⟩ rfl) ?_
  refine jr_if_eq (tgt := 21) hX dX6_build_10 (by decide) (fun c_10 => absurd c_10 (by decide)) (fun c_10 => ?_)
  refine jr_aload_n hX dX6_build_13 rfl ?_
  refine jr_iload_n hX dX6_build_14 rfl ?_
  refine jr_ret (jr_runV hX hSt kM_X6_61 (c_isHarbour_ok (jj_fl hX) hly h_h hH0 (by omega)) rfl rfl (ly_kMo hly) ⟨_, _, rfl, by decide⟩ dX6_build_15 rfl ⟨jj_b1 rfl, jj_b1 rfl⟩ rfl) ?_
  refine jr_if_ne (tgt := 27) hX dX6_build_18 (by decide) (fun c_18 => ?_) (fun c_18 => absurd c_18 (by decide))
  refine jr_iload_n hX dX6_build_27 rfl ?_
  refine jr_iconst (v := 1) hX dX6_build_28 (by decide) ?_
  refine jr_bipush (v := 60) hX dX6_build_29 (by decide) ?_
  refine jr_ret (jr_runS hX hSt kM_X6_47 (c_isIn_ok (jj_fl hX) h_y) rfl rfl dX6_build_31 rfl ⟨jj_b1 rfl, jj_b1 rfl⟩ rfl) ?_
  refine jr_if_ne (tgt := 43) hX dX6_build_34 (by decide) (fun c_34 => ?_) (fun c_34 => absurd c_34 (by decide))
  refine jr_aload_n hX dX6_build_43 rfl ?_
  refine jr_geti hX kF_X6_54 rfl (ly_kMo hly) dX6_build_44 ?_
  refine jr_bipush (v := 10) hX dX6_build_47 (by decide) ?_
  rw [hB0]
  refine jr_icmp_ne (tgt := 58) hX dX6_build_49 (by decide) (fun c_49 => absurd (by rw [h_r]; rfl) c_49) (fun c_49 => ?_)
  refine jr_aload_n hX dX6_build_52 rfl ?_
  refine jr_iconst (v := 3) hX dX6_build_53 (by decide) ?_
  refine jr_ret (jr_runV hX hSt kM_X6_57 (c_fail (jj_fl hX) hly) rfl rfl (ly_kMo hly) ⟨_, _, rfl, by decide⟩ dX6_build_54 rfl ⟨jj_b1 rfl, jj_b1 rfl⟩ rfl) ?_
  exact jr_iret hX dX6_build_57 rfl rfl ⟨rfl, rfl, rfl, rfl, rfl, rfl⟩
set_option maxHeartbeats 4000000 in
set_option maxRecDepth 100000 in
theorem m_build_ok {l : Launch} (hfl : l.stackTraces = false) {D : jj_D} {n : Nat} {K : jj_K} {I : jj_I} {P : jj_P} {G : jj_G} (hly : ly K P) {H M B N : Nat} {C : jj_I} {m : Nat} {h : Nat} {y : Int32} (hs : sf 0 H M B N C) (hk : sk 0 H M B N C) (hm : ml 0 H M B N C I) (hz : mz M C I) (h_m : m < M) (h_h : h < H) (h_y : 1 ≤ y ∧ y ≤ 60) (h_r : B < 10) (hn : 161 ≤ n) (hKn : ∀ a, n ≤ a → K a = none) (f7 : C (aB 0 B) 7 = 0) (fc : ∀ g, g < 4 → C (aBc 0 B) g = 0) :
    jj_Met l D yX6_build (jj_ws yX6_build cX6_build 5 (some .int)) { frames := 2, cells := 1, slots := 12, locals := 43 } [.ref 150, .int (nI m), .int (nI h), .int y] n K I P G (jj_RS (fun r J => r = some (.int (nI B)) ∧ J 150 0 = 0 ∧ ml 0 H M (B + 1) N (jj_u (f_la 0 B (nI m) (nI h) y C) (aW 0) 2 (nI (B + 1))) J ∧ mz (M) (jj_u (f_la 0 B (nI m) (nI h) y C) (aW 0) 2 (nI (B + 1))) J ∧ ∀ a, offN a → J a = I a) (n + 1) K P G) jj_noX := by
  refine jj_of hfl (by decide +kernel) [some (.ref 150), some (.int (nI m)), some (.int (nI h)), some (.int y), none] rfl rfl ?_
  intro X hXl hX hSt
  have z := sf_Z hs
  have hm0 : ml 0 H M B N C (jj_u I 150 0 0) := ml_th hm z
  have hz0 : mz M C (jj_u I 150 0 0) := mz_th hz
  have hH0 := hm0.1.1
  have hM0 := hm0.1.2.1
  have hB0 := hm0.1.2.2.1
  have hN0 := hm0.1.2.2.2
  have hH2 := hs.1.2
  have hM2 := z.1
  have hB2 := z.2.1
  have hN2 := z.2.2
  have n150 : (150 : Nat) ≠ n := by omega
  refine jr_aload_n hX dX6_build_0 rfl ?_
  refine jr_iconst (v := 0) hX dX6_build_1 (by decide) ?_
  refine jr_puti hX kF_X6_40 rfl (ly_kMo hly) (by decide) dX6_build_2 ?_
  refine jr_aload_n hX dX6_build_5 rfl ?_
  refine jr_iload_n hX dX6_build_6 rfl ?_
  refine jr_ret (jr_runV hX hSt kM_X6_96 (c_isMerchant_ok (jj_fl hX) hly h_m hM0 (by omega)) rfl rfl (ly_kMo hly) ⟨_, _, rfl, by decide⟩ dX6_build_7 rfl ⟨jj_b1 rfl, jj_b1 rfl⟩ rfl) ?_
  refine jr_if_eq (tgt := 21) hX dX6_build_10 (by decide) (fun c_10 => absurd c_10 (by decide)) (fun c_10 => ?_)
  refine jr_aload_n hX dX6_build_13 rfl ?_
  refine jr_iload_n hX dX6_build_14 rfl ?_
  refine jr_ret (jr_runV hX hSt kM_X6_61 (c_isHarbour_ok (jj_fl hX) hly h_h hH0 (by omega)) rfl rfl (ly_kMo hly) ⟨_, _, rfl, by decide⟩ dX6_build_15 rfl ⟨jj_b1 rfl, jj_b1 rfl⟩ rfl) ?_
  refine jr_if_ne (tgt := 27) hX dX6_build_18 (by decide) (fun c_18 => ?_) (fun c_18 => absurd c_18 (by decide))
  refine jr_iload_n hX dX6_build_27 rfl ?_
  refine jr_iconst (v := 1) hX dX6_build_28 (by decide) ?_
  refine jr_bipush (v := 60) hX dX6_build_29 (by decide) ?_
  refine jr_ret (jr_runS hX hSt kM_X6_47 (c_isIn_ok (jj_fl hX) h_y) rfl rfl dX6_build_31 rfl ⟨jj_b1 rfl, jj_b1 rfl⟩ rfl) ?_
  refine jr_if_ne (tgt := 43) hX dX6_build_34 (by decide) (fun c_34 => ?_) (fun c_34 => absurd c_34 (by decide))
  refine jr_aload_n hX dX6_build_43 rfl ?_
  refine jr_geti hX kF_X6_54 rfl (ly_kMo hly) dX6_build_44 ?_
  refine jr_bipush (v := 10) hX dX6_build_47 (by decide) ?_
  rw [hB0]
  refine jr_icmp_ne (tgt := 58) hX dX6_build_49 (by decide) (fun c_49 => ?_) (fun c_49 => absurd c_49 (fun e => absurd (jm_n (s := 10) e (by omega) (by omega)) (by omega)))
  refine jr_bipush (v := 12) hX dX6_build_58 (by decide) ?_
  refine jr_newI hX kA_int (show _ = nI 12 from rfl) (by omega) dX6_build_60 ⟨jj_b1 rfl, jj_b1 rfl⟩ ?_
  have K9 : jj_uK K n (10, 12) n = some (10, 12) := if_pos rfl
  have hly := ly_uK (kd := (10, 12)) hly hn
  refine jr_dup hX dX6_build_62 rfl ?_
  refine jr_iconst (v := 0) hX dX6_build_63 (by decide) ?_
  refine jr_iload_n hX dX6_build_64 rfl ?_
  refine jr_iast hX K9 (by omega) (show _ = nI 0 from rfl) (by omega) dX6_build_65 ?_
  refine jr_dup hX dX6_build_66 rfl ?_
  refine jr_iconst (v := 1) hX dX6_build_67 (by decide) ?_
  refine jr_bipush (v := 20) hX dX6_build_68 (by decide) ?_
  refine jr_iast hX K9 (by omega) (show _ = nI 1 from rfl) (by omega) dX6_build_70 ?_
  refine jr_dup hX dX6_build_71 rfl ?_
  refine jr_iconst (v := 2) hX dX6_build_72 (by decide) ?_
  refine jr_iload_n hX dX6_build_73 rfl ?_
  refine jr_iast hX K9 (by omega) (show _ = nI 2 from rfl) (by omega) dX6_build_74 ?_
  refine jr_dup hX dX6_build_75 rfl ?_
  refine jr_iconst (v := 3) hX dX6_build_76 (by decide) ?_
  refine jr_iconst (v := 0) hX dX6_build_77 (by decide) ?_
  refine jr_iast hX K9 (by omega) (show _ = nI 3 from rfl) (by omega) dX6_build_78 ?_
  refine jr_dup hX dX6_build_79 rfl ?_
  refine jr_iconst (v := 4) hX dX6_build_80 (by decide) ?_
  refine jr_iload_n hX dX6_build_81 rfl ?_
  refine jr_iast hX K9 (by omega) (show _ = nI 4 from rfl) (by omega) dX6_build_82 ?_
  refine jr_dup hX dX6_build_83 rfl ?_
  refine jr_iconst (v := 5) hX dX6_build_84 (by decide) ?_
  refine jr_iload_n hX dX6_build_85 rfl ?_
  refine jr_iast hX K9 (by omega) (show _ = nI 5 from rfl) (by omega) dX6_build_86 ?_
  refine jr_dup hX dX6_build_87 rfl ?_
  refine jr_bipush (v := 6) hX dX6_build_88 (by decide) ?_
  refine jr_iconst (v := 0) hX dX6_build_90 (by decide) ?_
  refine jr_iast hX K9 (by omega) (show _ = nI 6 from rfl) (by omega) dX6_build_91 ?_
  refine jr_dup hX dX6_build_92 rfl ?_
  refine jr_bipush (v := 7) hX dX6_build_93 (by decide) ?_
  refine jr_iconst (v := -1) hX dX6_build_95 (by decide) ?_
  refine jr_iast hX K9 (by omega) (show _ = nI 7 from rfl) (by omega) dX6_build_96 ?_
  refine jr_dup hX dX6_build_97 rfl ?_
  refine jr_bipush (v := 8) hX dX6_build_98 (by decide) ?_
  refine jr_iconst (v := 0) hX dX6_build_100 (by decide) ?_
  refine jr_iast hX K9 (by omega) (show _ = nI 8 from rfl) (by omega) dX6_build_101 ?_
  refine jr_dup hX dX6_build_102 rfl ?_
  refine jr_bipush (v := 9) hX dX6_build_103 (by decide) ?_
  refine jr_iconst (v := 0) hX dX6_build_105 (by decide) ?_
  refine jr_iast hX K9 (by omega) (show _ = nI 9 from rfl) (by omega) dX6_build_106 ?_
  refine jr_dup hX dX6_build_107 rfl ?_
  refine jr_bipush (v := 10) hX dX6_build_108 (by decide) ?_
  refine jr_iconst (v := 0) hX dX6_build_110 (by decide) ?_
  refine jr_iast hX K9 (by omega) (show _ = nI 10 from rfl) (by omega) dX6_build_111 ?_
  refine jr_dup hX dX6_build_112 rfl ?_
  refine jr_bipush (v := 11) hX dX6_build_113 (by decide) ?_
  refine jr_iconst (v := 0) hX dX6_build_115 (by decide) ?_
  refine jr_iast hX K9 (by omega) (show _ = nI 11 from rfl) (by omega) dX6_build_116 ?_
  have es : (jj_u (jj_u (jj_u (jj_u (jj_u (jj_u (jj_u (jj_u (jj_u (jj_u (jj_u (jj_u (jj_uR (jj_u I 150 0 0) n (fun _ => 0)) n 0 (nI m)) n 1 20) n 2 y) n 3 0) n 4 (nI h)) n 5 (nI h)) n 6 0) n 7 (-1)) n 8 0) n 9 0) n 10 0) n 11 0) = f_s12 n m h y (jj_u I 150 0 0) := rfl
  rw [es]
  refine jr_astore hX dX6_build_117 rfl ?_
  refine jr_aload hX dX6_build_119 rfl ?_
  refine jr_iconst (v := 0) hX dX6_build_121 (by decide) ?_
  refine jr_aload_n hX dX6_build_122 rfl ?_
  refine jr_getr hX kF_X6_31 rfl (ly_kMo hly) (ly_p6_12 hly) dX6_build_123 ?_
  refine jr_bipush (v := 12) hX dX6_build_126 (by decide) ?_
  refine jr_aload_n hX dX6_build_128 rfl ?_
  refine jr_geti hX kF_X6_54 rfl (ly_kMo hly) dX6_build_129 ?_
  rw [s12_ne n150, hB0]
  refine jr_imul hX dX6_build_132 ?_
  refine jr_bipush (v := 12) hX dX6_build_133 (by decide) ?_
  refine jr_copy hX kM_X6_115 K9 (ly_k158 hly) (by decide) (show _ = nI 0 from rfl) (show _ = nI (12 * B) from by rw [show (12 : Int32) = nI 12 from rfl, pk_mul]) (show _ = nI 12 from rfl) (by omega) dX6_build_135 rfl ?_
  refine jr_aload_n hX dX6_build_138 rfl ?_
  refine jr_dup hX dX6_build_139 rfl ?_
  refine jr_geti hX kF_X6_54 rfl (ly_kMo hly) dX6_build_140 ?_
  rw [jj_uR_ne (show (150 : Nat) ≠ 158 by decide), s12_ne n150, hB0]
  refine jr_iconst (v := 1) hX dX6_build_143 (by decide) ?_
  refine jr_iadd hX dX6_build_144 ?_
  rw [nI_1]
  refine jr_puti hX kF_X6_54 rfl (ly_kMo hly) (by decide) dX6_build_145 ?_
  refine jr_aload_n hX dX6_build_148 rfl ?_
  refine jr_geti hX kF_X6_54 rfl (ly_kMo hly) dX6_build_149 ?_
  rw [jj_u_eq]
  refine jr_iconst (v := 1) hX dX6_build_152 (by decide) ?_
  refine jr_isub hX dX6_build_153 ?_
  rw [nI_pred]
  refine jr_cl1 (f := I n) (hKn n (Nat.le_refl _)) ?_
  exact jr_iret hX dX6_build_154 rfl rfl ⟨⟨rfl, by rw [jj_uR_ne (by omega)]; (show f_bdI n m h B y (jj_u I 150 0 0) 150 0 = 0); unfold f_bdI; rw [jj_u_nk (by decide), jj_uR_ne (by decide), s12_ne n150, jj_u_eq], ml_build hm0 z hn h_r f7 fc _, mz_cg hz0 (fun m2 _ _ => by rw [jj_uR_ne (by omega)]; exact congrFun (bd_ne (n := n) (m := m) (h := h) (B := B) (y := y) (by omega) (by decide) (by decide)) _) (fun m2 k _ _ _ => by rw [jj_uR_ne (by omega)]; exact congrFun (bd_ne (n := n) (m := m) (h := h) (B := B) (y := y) (by omega) (by decide) (by decide)) _) (fun m2 _ _ => by rw [jj_u_ne (by simp only [aMt, aW]; omega)]; unfold f_la; rw [jj_u_ne (by simp only [aMt, aB]; omega), jj_u_ne (by simp only [aMt, aB]; omega), jj_u_ne (by simp only [aMt, aB]; omega), jj_u_ne (by simp only [aMt, aB]; omega), jj_u_ne (by simp only [aMt, aB]; omega), jj_u_ne (by simp only [aMt, aB]; omega)]), fun a ha => by
    by_cases e : a = n
    · subst e; rw [jj_uR_eq]
    · unfold offN at ha
      rw [jj_uR_ne e]
      exact (bd_ne (n := n) (m := m) (h := h) (B := B) (y := y) e (by omega) (by omega)).trans (jj_u_ne (by omega))⟩, rfl, rfl, rfl, rfl⟩
