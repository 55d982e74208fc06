theorem la_y1 {I : jj_I} {b g u o h0 sv sr rr : Nat} (hu : u ≤ rr - sr) (hsr : sr ≤ rr) (hr6 : rr ≤ 60) (er : I (aB 0 b) 2 = nI rr) (es : sm (I (aBc 0 b)) 4 = nI sr) (e0 : I (aB 0 b) 0 = nI o) (e4 : I (aB 0 b) 4 = nI h0) (ho : o < 5) (hh : h0 < 8) (esv : I (aMt 0 o) (4 * h0 + g) = nI sv) (hus : u ≤ sv) (hsv : sv < 2147483648) :
    (-60 ≤ nI u ∧ nI u ≤ 60) ∧ (¬ nI u = 0 → (if 0 ≤ nI u then nI u else 0 - nI u) ≤ (if 0 < nI u then I (aMt 0 (nv (I (aB 0 b) 0))) (nv (I (aB 0 b) 4) * 4 + g) else I (aBc 0 b) g)) ∧ nI u ≤ I (aB 0 b) 2 - sm (I (aBc 0 b)) 4 := by
  have p0 : (0 : Int32) ≤ nI u := nI_pos' (by omega)
  refine ⟨⟨?_, by rw [show (60 : Int32) = nI 60 from rfl]; exact nI_le (by omega) (by omega)⟩, fun h => ?_, by rw [er, es, nI_sb hsr]; exact nI_le hu (by omega)⟩
  · rw [Int32.le_iff_toInt_le] at p0 ⊢
    have : (-60 : Int32).toInt = -60 := rfl
    have : (0 : Int32).toInt = 0 := rfl
    omega
  · rw [if_pos p0, if_pos (i32_pos p0 h), e0, e4, nv_nI (by omega), nv_nI (by omega), show h0 * 4 + g = 4 * h0 + g by omega, esv]
    exact nI_le hus (by omega)
theorem la_y2 {t H M B N : Nat} {I : jj_I} {b g : Nat} (h : tn_c t H M B N I) (hb : b < B) (hg : g < 4) (hp : I (aB 0 b) 3 = 0 ∨ I (aB 0 b) 3 = 1) :
    (-60 ≤ -I (aBc 0 b) g ∧ -I (aBc 0 b) g ≤ 60) ∧ (¬ -I (aBc 0 b) g = 0 → (if 0 ≤ -I (aBc 0 b) g then -I (aBc 0 b) g else 0 - -I (aBc 0 b) g) ≤ (if 0 < -I (aBc 0 b) g then I (aMt 0 (nv (I (aB 0 b) 0))) (nv (I (aB 0 b) 4) * 4 + g) else I (aBc 0 b) g)) ∧ -I (aBc 0 b) g ≤ I (aB 0 b) 2 - sm (I (aBc 0 b)) 4 := by
  obtain ⟨o, h0, ho, hh0, e0, e4, -, hc0, sr, rr, hsr, hr6, es, er, esr⟩ := tc_ld h hb hg hp
  have c6 : nv (I (aBc 0 b) g) ≤ 60 := by
    have := tn_le (f := fun g => nv (I (aBc 0 b) g)) (j := g) (n := 4) hg
    have e : (fun g => nv (I (aBc 0 b) g)) g = nv (I (aBc 0 b) g) := rfl
    omega
  obtain ⟨c, hc, ec⟩ := nI_of (show ¬ I (aBc 0 b) g < 0 from Int32.not_lt.mpr hc0)
  rw [ec] at c6 ⊢
  rw [nv_nI hc] at c6
  have ti := nI_toInt (n := c) (by omega)
  have tn : (-nI c).toInt = -(c : Int) := by
    rw [Int32.toInt_neg, ti]
    exact Int.bmod_eq_of_le (by omega) (by omega)
  have z0 : (0 : Int32).toInt = 0 := rfl
  refine ⟨⟨?_, ?_⟩, fun hne => ?_, ?_⟩
  · rw [Int32.le_iff_toInt_le, tn]; have : (-60 : Int32).toInt = -60 := rfl; omega
  · rw [Int32.le_iff_toInt_le, tn]; have : (60 : Int32).toInt = 60 := rfl; omega
  · have c0 : c ≠ 0 := fun e => by subst e; exact hne rfl
    rw [if_neg (by rw [Int32.le_iff_toInt_le, tn, z0]; omega), if_neg (by rw [Int32.lt_iff_toInt_lt, tn, z0]; omega)]
    rw [show (0 : Int32) - -nI c = nI c by rw [Int32.zero_sub, Int32.neg_neg]]
    exact Int32.le_refl _
  · rw [er, es, nI_sb hsr, Int32.le_iff_toInt_le, tn, nI_toInt (by omega)]
    omega
set_option maxHeartbeats 4000000 in
set_option maxRecDepth 100000 in
theorem l_act_3 {l : Launch} (hfl : l.stackTraces = false) {D : jj_D} {n : Nat} {K : jj_K} {I : jj_I} {P : jj_P} {G : jj_G} {A : Nat → Nat} {H M B N t : Nat} {x : Int32} (hv : lv A H M B N n t K I P) (ht : t + 2 ≤ 512) (e9 : bw (x >>> (9 &&& 31)) 10 = 3) :
    jj_Met l D yL_act (jj_ws yL_act cL_act 16 (some .boolean)) { frames := 9, cells := 2, slots := 38, locals := 159 } [.ref 1, .ref (A 0), .int x] n K I P G (fun r n1 K1 I1 P1 G1 => G1 = G ∧ r = some (.int 1) ∧ ∃ A1 N1, A1 0 = A 0 ∧ lv A1 H M B N1 n1 (t + 2) K1 I1 P1) jj_noX := by
  refine jj_of hfl (by decide +kernel) [some (.ref 1), some (.ref (A 0)), some (.int x), none, none, none, none, none, none, none, none, none, none, none, none, none] rfl rfl ?_
  intro X hXl hX hSt
  obtain ⟨hly, hsy, hms, htc, hdz, hH, hM, hB⟩ := id hv
  obtain ⟨hH8, hM5, hB10, hN30⟩ := id hsy.1
  have g0 := sy_lt hsy (t := 0) sv_0
  have g4 := sy_lt hsy (t := 4) sv_4
  refine jr_aload_n hX dL_act_0 rfl ?_
  refine jr_getr hX kF_L_41 rfl (sy_k0 hsy) (sy_p0_1 hsy) dL_act_1 ?_
  refine jr_alen (t := 15) hX (by decide) (sy_k5 hsy) dL_act_4 ?_
  refine jr_istore_n hX dL_act_5 rfl ?_
  refine jr_iload_n hX dL_act_6 rfl ?_
  refine jr_aload_n hX dL_act_7 rfl ?_
  refine jr_getr hX kF_L_49 rfl (sy_k0 hsy) (sy_p0_4 hsy) dL_act_8 ?_
  refine jr_alen (t := 10) hX (by decide) (sy_k4 hsy) dL_act_11 ?_
  refine jr_ret (jr_runS hX hSt kM_L_18 (l_below (jj_fl hX) (m := M) (rfl) ⟨by omega, by omega⟩) rfl rfl dL_act_12 rfl ⟨by simp only [jj_N]; omega, by simp only [jj_N]; omega⟩ rfl) ?_
  have hm := bw_lt (v := x) (m := M) (by omega)
  generalize bw x M = m at hm
  refine jr_istore hX dL_act_15 rfl ?_
  refine jr_iload_n hX dL_act_17 rfl ?_
  refine jr_iconst (v := 2) hX dL_act_18 (by decide) ?_
  refine jr_ishr hX dL_act_19 ?_
  refine jr_iload_n hX dL_act_20 rfl ?_
  refine jr_ret (jr_runS hX hSt kM_L_18 (l_below (jj_fl hX) (m := H) (rfl) ⟨by omega, by omega⟩) rfl rfl dL_act_21 rfl ⟨by simp only [jj_N]; omega, by simp only [jj_N]; omega⟩ rfl) ?_
  have hh := bw_lt (v := (x >>> (2 &&& 31))) (m := H) (by omega)
  generalize bw (x >>> (2 &&& 31)) H = h at hh
  refine jr_istore hX dL_act_24 rfl ?_
  refine jr_iload_n hX dL_act_26 rfl ?_
  refine jr_iconst (v := 3) hX dL_act_27 (by decide) ?_
  refine jr_ishr hX dL_act_28 ?_
  refine jr_iconst (v := 4) hX dL_act_29 (by decide) ?_
  refine jr_ret (jr_runS hX hSt kM_L_18 (l_below (jj_fl hX) (m := 4) (show _ = nI 4 from rfl) (by decide)) rfl rfl dL_act_30 rfl ⟨by simp only [jj_N]; omega, by simp only [jj_N]; omega⟩ rfl) ?_
  have hg := bw_lt (v := (x >>> (3 &&& 31))) (m := 4) (by decide)
  generalize bw (x >>> (3 &&& 31)) 4 = g at hg
  refine jr_istore hX dL_act_33 rfl ?_
  refine jr_iload_n hX dL_act_35 rfl ?_
  refine jr_iconst (v := 4) hX dL_act_36 (by decide) ?_
  refine jr_ishr hX dL_act_37 ?_
  refine jr_aload_n hX dL_act_38 rfl ?_
  refine jr_getr hX kF_L_62 rfl (sy_k0 hsy) (sy_p0_6 hsy) dL_act_39 ?_
  refine jr_alen (t := 17) hX (by decide) (sy_k6 hsy) dL_act_42 ?_
  refine jr_ret (jr_runS hX hSt kM_L_18 (l_below (jj_fl hX) (m := B) (rfl) ⟨by omega, by omega⟩) rfl rfl dL_act_43 rfl ⟨by simp only [jj_N]; omega, by simp only [jj_N]; omega⟩ rfl) ?_
  have hb := bw_lt (v := (x >>> (4 &&& 31))) (m := B) (by omega)
  generalize bw (x >>> (4 &&& 31)) B = b at hb
  obtain ⟨q0, q1, q2, q3, q4, q5, q6, q7, q8⟩ := hms.2.2.2.2.2.2.1 b hb
  have est := hms.2.2.2.2.2.2.2.2
  have gS := fun (m h : Nat) (hm : m < 5) (hh : h < 8) => sy_lt hsy (t := 110 + 8 * m + h) (sv_S hsy.1 hm hh)
  have gB := sy_lt hsy (t := 20 + b) (sv_B hsy.1 hb)
  have gG := sy_lt hsy (t := 40 + b) (sv_G hsy.1 hb)
  have hfB := htc.1.2.2.2.2.1 b hb
  refine jr_istore hX dL_act_46 rfl ?_
  refine jr_aload_n hX dL_act_48 rfl ?_
  refine jr_getr hX kF_L_62 rfl (sy_k0 hsy) (sy_p0_6 hsy) dL_act_49 ?_
  refine jr_iload hX dL_act_52 rfl ?_
  refine jr_aald (t := 17) hX (by decide) (sy_k6 hsy) rfl (by omega) (sy_qB hsy (by omega)) dL_act_54 ?_
  refine jr_astore hX dL_act_55 rfl ?_
  refine jr_iload_n hX dL_act_57 rfl ?_
  refine jr_bipush (v := 9) hX dL_act_58 (by decide) ?_
  refine jr_ishr hX dL_act_60 ?_
  refine jr_bipush (v := 10) hX dL_act_61 (by decide) ?_
  refine jr_ret (jr_runS hX hSt kM_L_18 (l_below (jj_fl hX) (m := 10) (show _ = nI 10 from rfl) (by decide)) rfl rfl dL_act_63 rfl ⟨by simp only [jj_N]; omega, by simp only [jj_N]; omega⟩ rfl) ?_
  rw [e9]
  refine jr_tabIn (tgt := 292) hX dL_act_66 (by decide) (by decide) rfl (by decide) ?_
  refine jr_aload hX dL_act_292 rfl ?_
  refine jr_geti hX kF_L_77 rfl (sy_kB hsy (by first | assumption | omega)) dL_act_294 ?_
  rw [q3]
  refine jr_iconst (v := 1) hX dL_act_297 (by decide) ?_
  refine jr_icmp_le (tgt := 303) hX dL_act_298 (by decide) (fun c_298 => ?_) (fun c_298 => ?_)
  · have hp := st_01 hfB.2.1 c_298
    obtain ⟨o, h0, ho, hh0, e0, e4, -, -, sr, rr, hsr, hr6, es, er, -⟩ := tc_ld htc hb hg hp
    have hh8 : h0 < 8 := by omega
    obtain ⟨sv, hsv, esv⟩ := tc_st htc (show o < 5 by omega) (show 4 * h0 + g < 32 by omega)
    refine jr_bipush (v := 60) hX dL_act_303 (by decide) ?_
    refine jr_aload hX dL_act_305 rfl ?_
    refine jr_geti hX kF_L_83 rfl (sy_kB hsy (by first | assumption | omega)) dL_act_307 ?_
    rw [q2]
    refine jr_aload hX dL_act_310 rfl ?_
    refine jr_ret (jr_runV hX hSt kM_L_86 (s_all (jj_fl hX) hsy hb) rfl rfl (sy_kB hsy (by first | assumption | omega)) ⟨_, _, rfl, by decide⟩ dL_act_312 rfl ⟨by simp only [jj_N]; omega, by simp only [jj_N]; omega⟩ rfl) ?_
    rw [s_al_eq hms hb]
    refine jr_isub hX dL_act_315 ?_
    rw [er, es, nI_sb hsr]
    refine jr_mmin hX kM_L_90 dL_act_316 rfl ⟨jj_b1 rfl, jj_b1 rfl⟩ ?_
    rw [show (60 : Int32) = nI 60 from rfl, mn_nI (by omega) (by omega)]
    obtain ⟨u1, hu1, eu1⟩ : ∃ u, u ≤ rr - sr ∧ u = (if rr - sr < 60 then rr - sr else 60) := ⟨_, by (split <;> omega), rfl⟩
    rw [← eu1]
    refine jr_aload_n hX dL_act_319 rfl ?_
    refine jr_getr hX kF_L_66 rfl (sy_k0 hsy) (sy_p0_5 hsy) dL_act_320 ?_
    refine jr_aload hX dL_act_323 rfl ?_
    refine jr_geti hX kF_L_95 rfl (sy_kB hsy (by first | assumption | omega)) dL_act_325 ?_
    rw [q0, e0]
    refine jr_aald (t := 16) hX (by decide) (sy_k8 hsy) rfl (by omega) (sy_qM hsy (by omega)) dL_act_328 ?_
    refine jr_aload hX dL_act_329 rfl ?_
    refine jr_geti hX kF_L_98 rfl (sy_kB hsy (by first | assumption | omega)) dL_act_331 ?_
    rw [q4, e4]
    refine jr_aald (t := 15) hX (by decide) (sy_kM hsy (by omega)) rfl (by omega) (sy_qS hsy (by omega) (by omega)) dL_act_334 ?_
    refine jr_iload hX dL_act_335 rfl ?_
    refine jr_iald hX (by first | with_reducible assumption | with_reducible exact sy_k0 hsy | with_reducible exact sy_k1 hsy | with_reducible exact sy_k2 hsy | with_reducible exact sy_k3 hsy | with_reducible exact sy_k4 hsy | with_reducible exact sy_k5 hsy | with_reducible exact sy_k6 hsy | with_reducible exact sy_k7 hsy | with_reducible exact sy_k8 hsy | with_reducible exact sy_kH hsy (by first | assumption | omega) | with_reducible exact sy_kB hsy (by first | assumption | omega) | with_reducible exact sy_kG hsy (by first | assumption | omega) | with_reducible exact sy_kD hsy (by first | assumption | omega) | with_reducible exact sy_kM hsy (by first | assumption | omega) | with_reducible exact sy_kS hsy (by first | assumption | omega) (by first | assumption | omega)) (by first | with_reducible rfl | with_reducible assumption | rfl) (by omega) dL_act_337 ?_
    rw [est o (by omega) h0 (by omega) g hg, esv]
    refine jr_mmin hX kM_L_90 dL_act_338 rfl ⟨jj_b1 rfl, jj_b1 rfl⟩ ?_
    rw [mn_nI (by omega) (by omega)]
    obtain ⟨u, hu, eu⟩ : ∃ u, (u ≤ u1 ∧ u ≤ sv) ∧ u = (if sv < u1 then sv else u1) := ⟨_, by (split <;> omega), rfl⟩
    rw [← eu]
    refine jr_istore hX dL_act_341 rfl ?_
    refine jr_iload_n hX dL_act_343 rfl ?_
    refine jr_iconst (v := 5) hX dL_act_344 (by decide) ?_
    refine jr_ishr hX dL_act_345 ?_
    refine jr_iconst (v := 3) hX dL_act_346 (by decide) ?_
    refine jr_ret (jr_runS hX hSt kM_L_18 (l_below (jj_fl hX) (m := 3) (show _ = nI 3 from rfl) (by decide)) rfl rfl dL_act_347 rfl ⟨by simp only [jj_N]; omega, by simp only [jj_N]; omega⟩ rfl) ?_
    generalize bw (x >>> (5 &&& 31)) 3 = w
    refine jr_if_ne (tgt := 364) hX dL_act_350 (by decide) (fun c_350 => ?_) (fun c_350 => ?_)
    · obtain ⟨y, ⟨hy, he, hf⟩, ey⟩ : ∃ y : Int32, ((-60 ≤ y ∧ y ≤ 60) ∧ (¬ y = 0 → (if 0 ≤ y then y else 0 - y) ≤ (if 0 < y then I (aMt 0 (nv (I (aB 0 b) 0))) (nv (I (aB 0 b) 4) * 4 + g) else I (aBc 0 b) g)) ∧ y ≤ I (aB 0 b) 2 - sm (I (aBc 0 b)) 4) ∧ y = nI u := ⟨_, la_y1 (by omega) hsr hr6 er es e0 e4 ho (by omega) esv hu.2 (by omega), rfl⟩
      rw [← ey]
      refine jr_iload hX dL_act_364 rfl ?_
      refine jr_if_ne (tgt := 371) hX dL_act_366 (by decide) (fun c_366 => ?_) (fun c_366 => ?_)
      · refine jr_aload_n hX dL_act_371 rfl ?_
        refine jr_getr hX kF_L_66 rfl (sy_k0 hsy) (sy_p0_5 hsy) dL_act_372 ?_
        refine jr_aload hX dL_act_375 rfl ?_
        refine jr_geti hX kF_L_95 rfl (sy_kB hsy (by first | assumption | omega)) dL_act_377 ?_
        rw [q0, e0]
        refine jr_aald (t := 16) hX (by decide) (sy_k8 hsy) rfl (by omega) (sy_qM hsy (by omega)) dL_act_380 ?_
        refine jr_aload hX dL_act_381 rfl ?_
        refine jr_geti hX kF_L_98 rfl (sy_kB hsy (by first | assumption | omega)) dL_act_383 ?_
        rw [q4, e4]
        refine jr_aald (t := 15) hX (by decide) (sy_kM hsy (by omega)) rfl (by omega) (sy_qS hsy (by omega) (by omega)) dL_act_386 ?_
        refine jr_iload hX dL_act_387 rfl ?_
        refine jr_dup2 hX dL_act_389 rfl rfl ?_
        refine jr_iald hX (by first | with_reducible assumption | with_reducible exact sy_k0 hsy | with_reducible exact sy_k1 hsy | with_reducible exact sy_k2 hsy | with_reducible exact sy_k3 hsy | with_reducible exact sy_k4 hsy | with_reducible exact sy_k5 hsy | with_reducible exact sy_k6 hsy | with_reducible exact sy_k7 hsy | with_reducible exact sy_k8 hsy | with_reducible exact sy_kH hsy (by first | assumption | omega) | with_reducible exact sy_kB hsy (by first | assumption | omega) | with_reducible exact sy_kG hsy (by first | assumption | omega) | with_reducible exact sy_kD hsy (by first | assumption | omega) | with_reducible exact sy_kM hsy (by first | assumption | omega) | with_reducible exact sy_kS hsy (by first | assumption | omega) (by first | assumption | omega)) (by first | with_reducible rfl | with_reducible assumption | rfl) (by omega) dL_act_390 ?_
        rw [est o (by omega) h0 (by omega) g hg]
        refine jr_iload hX dL_act_391 rfl ?_
        refine jr_isub hX dL_act_393 ?_
        refine jr_iast hX (by first | with_reducible assumption | with_reducible exact sy_k0 hsy | with_reducible exact sy_k1 hsy | with_reducible exact sy_k2 hsy | with_reducible exact sy_k3 hsy | with_reducible exact sy_k4 hsy | with_reducible exact sy_k5 hsy | with_reducible exact sy_k6 hsy | with_reducible exact sy_k7 hsy | with_reducible exact sy_k8 hsy | with_reducible exact sy_kH hsy (by first | assumption | omega) | with_reducible exact sy_kB hsy (by first | assumption | omega) | with_reducible exact sy_kG hsy (by first | assumption | omega) | with_reducible exact sy_kD hsy (by first | assumption | omega) | with_reducible exact sy_kM hsy (by first | assumption | omega) | with_reducible exact sy_kS hsy (by first | assumption | omega) (by first | assumption | omega)) (by first | assumption | with_reducible exact sy_z0 hsy | with_reducible exact sy_z1 hsy | with_reducible exact sy_z2 hsy | with_reducible exact sy_z3 hsy | with_reducible exact sy_z4 hsy | with_reducible exact sy_zH hsy (by first | assumption | omega) | with_reducible exact sy_zB hsy (by first | assumption | omega) | with_reducible exact sy_zG hsy (by first | assumption | omega) | with_reducible exact sy_zD hsy (by first | assumption | omega) | with_reducible exact sy_zS hsy (by first | assumption | omega) (by first | assumption | omega) | omega) (by first | with_reducible rfl | with_reducible assumption | rfl) (by omega) dL_act_394 ?_
        refine jr_aload hX dL_act_395 rfl ?_
        refine jr_getr hX kF_L_101 rfl (sy_kB hsy (by first | assumption | omega)) (sy_qG hsy (by first | assumption | omega)) dL_act_397 ?_
        refine jr_iload hX dL_act_400 rfl ?_
        refine jr_dup2 hX dL_act_402 rfl rfl ?_
        refine jr_iald hX (by first | with_reducible assumption | with_reducible exact sy_k0 hsy | with_reducible exact sy_k1 hsy | with_reducible exact sy_k2 hsy | with_reducible exact sy_k3 hsy | with_reducible exact sy_k4 hsy | with_reducible exact sy_k5 hsy | with_reducible exact sy_k6 hsy | with_reducible exact sy_k7 hsy | with_reducible exact sy_k8 hsy | with_reducible exact sy_kH hsy (by first | assumption | omega) | with_reducible exact sy_kB hsy (by first | assumption | omega) | with_reducible exact sy_kG hsy (by first | assumption | omega) | with_reducible exact sy_kD hsy (by first | assumption | omega) | with_reducible exact sy_kM hsy (by first | assumption | omega) | with_reducible exact sy_kS hsy (by first | assumption | omega) (by first | assumption | omega)) (by first | with_reducible rfl | with_reducible assumption | rfl) (by omega) dL_act_403 ?_
        rw [sy_off hsy (sv_S hsy.1 (by omega) (by omega)) (sv_G hsy.1 hb) (by omega), q8 g hg]
        refine jr_iload hX dL_act_404 rfl ?_
        refine jr_iadd hX dL_act_406 ?_
        refine jr_iast hX (by first | with_reducible assumption | with_reducible exact sy_k0 hsy | with_reducible exact sy_k1 hsy | with_reducible exact sy_k2 hsy | with_reducible exact sy_k3 hsy | with_reducible exact sy_k4 hsy | with_reducible exact sy_k5 hsy | with_reducible exact sy_k6 hsy | with_reducible exact sy_k7 hsy | with_reducible exact sy_k8 hsy | with_reducible exact sy_kH hsy (by first | assumption | omega) | with_reducible exact sy_kB hsy (by first | assumption | omega) | with_reducible exact sy_kG hsy (by first | assumption | omega) | with_reducible exact sy_kD hsy (by first | assumption | omega) | with_reducible exact sy_kM hsy (by first | assumption | omega) | with_reducible exact sy_kS hsy (by first | assumption | omega) (by first | assumption | omega)) (by first | assumption | with_reducible exact sy_z0 hsy | with_reducible exact sy_z1 hsy | with_reducible exact sy_z2 hsy | with_reducible exact sy_z3 hsy | with_reducible exact sy_z4 hsy | with_reducible exact sy_zH hsy (by first | assumption | omega) | with_reducible exact sy_zB hsy (by first | assumption | omega) | with_reducible exact sy_zG hsy (by first | assumption | omega) | with_reducible exact sy_zD hsy (by first | assumption | omega) | with_reducible exact sy_zS hsy (by first | assumption | omega) (by first | assumption | omega) | omega) (by first | with_reducible rfl | with_reducible assumption | rfl) (by omega) dL_act_407 ?_
        have he := he c_366
        have eq : eqA (jj_u (jj_u I (A (110 + 8 * o + h0)) g (I (aMt 0 o) (4 * h0 + g) - y)) (A (40 + b)) g (I (aBc 0 b) g + y)) I := eqA_w (eqA_w (fun _ _ => rfl) (gS o h0 (by omega) (by omega)).1) gG.1
        have L1 := la_load hv ht hb hg e0 e4 ho hh0 hy c_366 hp he hf
        generalize jj_u (jj_u I (A (110 + 8 * o + h0)) g (I (aMt 0 o) (4 * h0 + g) - y)) (A (40 + b)) g (I (aBc 0 b) g + y) = J at L1 eq
        have eB := eq (aB 0 b) (by simp only [aB]; omega)
        refine jr_aload_n hX dL_act_408 rfl ?_
        refine jr_iload hX dL_act_409 rfl ?_
        refine jr_iload hX dL_act_411 rfl ?_
        refine jr_iload hX dL_act_413 rfl ?_
        refine jr_ret (jr_runV hX hSt kM_L_104 (c_load_ok (jj_fl hX) hly (eqA_sf eq htc.1) hb hg hy c_366 (by rw [eB]; exact hp) (by rw [eB, e0, nv_nI (by omega), eq (aMt 0 o) (by simp only [aMt]; omega), eq (aBc 0 b) (by simp only [aBc]; omega)]; rw [e0, nv_nI (by omega)] at he; exact he) (by rw [eB, eq (aBc 0 b) (by simp only [aBc]; omega)]; exact hf)) rfl rfl (ly_kI hly) ⟨_, _, rfl, by decide⟩ dL_act_415 rfl ⟨by simp only [jj_N]; omega, by simp only [jj_N]; omega⟩ rfl) ?_
        generalize f_load b g y J = F at L1
        refine jr_aload hX dL_act_418 rfl ?_
        refine jr_ret (jr_runV hX hSt kM_L_86 (s_all (jj_fl hX) hsy hb) rfl rfl (sy_kB hsy (by first | assumption | omega)) ⟨_, _, rfl, by decide⟩ dL_act_420 rfl ⟨by simp only [jj_N]; omega, by simp only [jj_N]; omega⟩ rfl) ?_
        rw [s_al_eq L1.2.2.1 hb]
        refine jr_icmp_ne (tgt := 430) hX dL_act_423 (by decide) (fun c_423 => absurd c_423 (show ¬ ¬ _ = _ from fun q => q rfl)) (fun c_423 => ?_)
        refine jr_iconst (v := 1) hX dL_act_426 (by decide) ?_
        refine jr_goto (tgt := 431) hX dL_act_427 (by decide) ?_
        exact jr_zret hX (Or.inr rfl) dL_act_431 (Nat.ble_eq.mpr (by first | (dsimp only; omega) | (simp only [jj_N]; omega))) (Nat.ble_eq.mpr (by first | (dsimp only; omega) | (simp only [jj_N]; omega))) ⟨rfl, rfl, A, N, rfl, L1⟩
      · refine jr_iconst (v := 1) hX dL_act_369 (by decide) ?_
        exact jr_zret hX (Or.inr rfl) dL_act_370 (Nat.ble_eq.mpr (by first | (dsimp only; omega) | (simp only [jj_N]; omega))) (Nat.ble_eq.mpr (by first | (dsimp only; omega) | (simp only [jj_N]; omega))) ⟨rfl, rfl, A, N, rfl, lv_st hv (by omega) ht⟩
    · refine jr_aload hX dL_act_353 rfl ?_
      refine jr_getr hX kF_L_101 rfl (sy_kB hsy (by first | assumption | omega)) (sy_qG hsy (by first | assumption | omega)) dL_act_355 ?_
      refine jr_iload hX dL_act_358 rfl ?_
      refine jr_iald hX (by first | with_reducible assumption | with_reducible exact sy_k0 hsy | with_reducible exact sy_k1 hsy | with_reducible exact sy_k2 hsy | with_reducible exact sy_k3 hsy | with_reducible exact sy_k4 hsy | with_reducible exact sy_k5 hsy | with_reducible exact sy_k6 hsy | with_reducible exact sy_k7 hsy | with_reducible exact sy_k8 hsy | with_reducible exact sy_kH hsy (by first | assumption | omega) | with_reducible exact sy_kB hsy (by first | assumption | omega) | with_reducible exact sy_kG hsy (by first | assumption | omega) | with_reducible exact sy_kD hsy (by first | assumption | omega) | with_reducible exact sy_kM hsy (by first | assumption | omega) | with_reducible exact sy_kS hsy (by first | assumption | omega) (by first | assumption | omega)) (by first | with_reducible rfl | with_reducible assumption | rfl) (by omega) dL_act_360 ?_
      rw [q8 g hg]
      refine jr_ineg hX dL_act_361 ?_
      refine jr_istore hX dL_act_362 rfl ?_
      obtain ⟨y, ⟨hy, he, hf⟩, ey⟩ : ∃ y : Int32, ((-60 ≤ y ∧ y ≤ 60) ∧ (¬ y = 0 → (if 0 ≤ y then y else 0 - y) ≤ (if 0 < y then I (aMt 0 (nv (I (aB 0 b) 0))) (nv (I (aB 0 b) 4) * 4 + g) else I (aBc 0 b) g)) ∧ y ≤ I (aB 0 b) 2 - sm (I (aBc 0 b)) 4) ∧ y = -I (aBc 0 b) g := ⟨_, la_y2 htc hb hg hp, rfl⟩
      rw [← ey]
      refine jr_iload hX dL_act_364 rfl ?_
      refine jr_if_ne (tgt := 371) hX dL_act_366 (by decide) (fun c_366 => ?_) (fun c_366 => ?_)
      · refine jr_aload_n hX dL_act_371 rfl ?_
        refine jr_getr hX kF_L_66 rfl (sy_k0 hsy) (sy_p0_5 hsy) dL_act_372 ?_
        refine jr_aload hX dL_act_375 rfl ?_
        refine jr_geti hX kF_L_95 rfl (sy_kB hsy (by first | assumption | omega)) dL_act_377 ?_
        rw [q0, e0]
        refine jr_aald (t := 16) hX (by decide) (sy_k8 hsy) rfl (by omega) (sy_qM hsy (by omega)) dL_act_380 ?_
        refine jr_aload hX dL_act_381 rfl ?_
        refine jr_geti hX kF_L_98 rfl (sy_kB hsy (by first | assumption | omega)) dL_act_383 ?_
        rw [q4, e4]
        refine jr_aald (t := 15) hX (by decide) (sy_kM hsy (by omega)) rfl (by omega) (sy_qS hsy (by omega) (by omega)) dL_act_386 ?_
        refine jr_iload hX dL_act_387 rfl ?_
        refine jr_dup2 hX dL_act_389 rfl rfl ?_
        refine jr_iald hX (by first | with_reducible assumption | with_reducible exact sy_k0 hsy | with_reducible exact sy_k1 hsy | with_reducible exact sy_k2 hsy | with_reducible exact sy_k3 hsy | with_reducible exact sy_k4 hsy | with_reducible exact sy_k5 hsy | with_reducible exact sy_k6 hsy | with_reducible exact sy_k7 hsy | with_reducible exact sy_k8 hsy | with_reducible exact sy_kH hsy (by first | assumption | omega) | with_reducible exact sy_kB hsy (by first | assumption | omega) | with_reducible exact sy_kG hsy (by first | assumption | omega) | with_reducible exact sy_kD hsy (by first | assumption | omega) | with_reducible exact sy_kM hsy (by first | assumption | omega) | with_reducible exact sy_kS hsy (by first | assumption | omega) (by first | assumption | omega)) (by first | with_reducible rfl | with_reducible assumption | rfl) (by omega) dL_act_390 ?_
        rw [est o (by omega) h0 (by omega) g hg]
        refine jr_iload hX dL_act_391 rfl ?_
        refine jr_isub hX dL_act_393 ?_
        refine jr_iast hX (by first | with_reducible assumption | with_reducible exact sy_k0 hsy | with_reducible exact sy_k1 hsy | with_reducible exact sy_k2 hsy | with_reducible exact sy_k3 hsy | with_reducible exact sy_k4 hsy | with_reducible exact sy_k5 hsy | with_reducible exact sy_k6 hsy | with_reducible exact sy_k7 hsy | with_reducible exact sy_k8 hsy | with_reducible exact sy_kH hsy (by first | assumption | omega) | with_reducible exact sy_kB hsy (by first | assumption | omega) | with_reducible exact sy_kG hsy (by first | assumption | omega) | with_reducible exact sy_kD hsy (by first | assumption | omega) | with_reducible exact sy_kM hsy (by first | assumption | omega) | with_reducible exact sy_kS hsy (by first | assumption | omega) (by first | assumption | omega)) (by first | assumption | with_reducible exact sy_z0 hsy | with_reducible exact sy_z1 hsy | with_reducible exact sy_z2 hsy | with_reducible exact sy_z3 hsy | with_reducible exact sy_z4 hsy | with_reducible exact sy_zH hsy (by first | assumption | omega) | with_reducible exact sy_zB hsy (by first | assumption | omega) | with_reducible exact sy_zG hsy (by first | assumption | omega) | with_reducible exact sy_zD hsy (by first | assumption | omega) | with_reducible exact sy_zS hsy (by first | assumption | omega) (by first | assumption | omega) | omega) (by first | with_reducible rfl | with_reducible assumption | rfl) (by omega) dL_act_394 ?_
        refine jr_aload hX dL_act_395 rfl ?_
        refine jr_getr hX kF_L_101 rfl (sy_kB hsy (by first | assumption | omega)) (sy_qG hsy (by first | assumption | omega)) dL_act_397 ?_
        refine jr_iload hX dL_act_400 rfl ?_
        refine jr_dup2 hX dL_act_402 rfl rfl ?_
        refine jr_iald hX (by first | with_reducible assumption | with_reducible exact sy_k0 hsy | with_reducible exact sy_k1 hsy | with_reducible exact sy_k2 hsy | with_reducible exact sy_k3 hsy | with_reducible exact sy_k4 hsy | with_reducible exact sy_k5 hsy | with_reducible exact sy_k6 hsy | with_reducible exact sy_k7 hsy | with_reducible exact sy_k8 hsy | with_reducible exact sy_kH hsy (by first | assumption | omega) | with_reducible exact sy_kB hsy (by first | assumption | omega) | with_reducible exact sy_kG hsy (by first | assumption | omega) | with_reducible exact sy_kD hsy (by first | assumption | omega) | with_reducible exact sy_kM hsy (by first | assumption | omega) | with_reducible exact sy_kS hsy (by first | assumption | omega) (by first | assumption | omega)) (by first | with_reducible rfl | with_reducible assumption | rfl) (by omega) dL_act_403 ?_
        rw [sy_off hsy (sv_S hsy.1 (by omega) (by omega)) (sv_G hsy.1 hb) (by omega), q8 g hg]
        refine jr_iload hX dL_act_404 rfl ?_
        refine jr_iadd hX dL_act_406 ?_
        refine jr_iast hX (by first | with_reducible assumption | with_reducible exact sy_k0 hsy | with_reducible exact sy_k1 hsy | with_reducible exact sy_k2 hsy | with_reducible exact sy_k3 hsy | with_reducible exact sy_k4 hsy | with_reducible exact sy_k5 hsy | with_reducible exact sy_k6 hsy | with_reducible exact sy_k7 hsy | with_reducible exact sy_k8 hsy | with_reducible exact sy_kH hsy (by first | assumption | omega) | with_reducible exact sy_kB hsy (by first | assumption | omega) | with_reducible exact sy_kG hsy (by first | assumption | omega) | with_reducible exact sy_kD hsy (by first | assumption | omega) | with_reducible exact sy_kM hsy (by first | assumption | omega) | with_reducible exact sy_kS hsy (by first | assumption | omega) (by first | assumption | omega)) (by first | assumption | with_reducible exact sy_z0 hsy | with_reducible exact sy_z1 hsy | with_reducible exact sy_z2 hsy | with_reducible exact sy_z3 hsy | with_reducible exact sy_z4 hsy | with_reducible exact sy_zH hsy (by first | assumption | omega) | with_reducible exact sy_zB hsy (by first | assumption | omega) | with_reducible exact sy_zG hsy (by first | assumption | omega) | with_reducible exact sy_zD hsy (by first | assumption | omega) | with_reducible exact sy_zS hsy (by first | assumption | omega) (by first | assumption | omega) | omega) (by first | with_reducible rfl | with_reducible assumption | rfl) (by omega) dL_act_407 ?_
        have he := he c_366
        have eq : eqA (jj_u (jj_u I (A (110 + 8 * o + h0)) g (I (aMt 0 o) (4 * h0 + g) - y)) (A (40 + b)) g (I (aBc 0 b) g + y)) I := eqA_w (eqA_w (fun _ _ => rfl) (gS o h0 (by omega) (by omega)).1) gG.1
        have L1 := la_load hv ht hb hg e0 e4 ho hh0 hy c_366 hp he hf
        generalize jj_u (jj_u I (A (110 + 8 * o + h0)) g (I (aMt 0 o) (4 * h0 + g) - y)) (A (40 + b)) g (I (aBc 0 b) g + y) = J at L1 eq
        have eB := eq (aB 0 b) (by simp only [aB]; omega)
        refine jr_aload_n hX dL_act_408 rfl ?_
        refine jr_iload hX dL_act_409 rfl ?_
        refine jr_iload hX dL_act_411 rfl ?_
        refine jr_iload hX dL_act_413 rfl ?_
        refine jr_ret (jr_runV hX hSt kM_L_104 (c_load_ok (jj_fl hX) hly (eqA_sf eq htc.1) hb hg hy c_366 (by rw [eB]; exact hp) (by rw [eB, e0, nv_nI (by omega), eq (aMt 0 o) (by simp only [aMt]; omega), eq (aBc 0 b) (by simp only [aBc]; omega)]; rw [e0, nv_nI (by omega)] at he; exact he) (by rw [eB, eq (aBc 0 b) (by simp only [aBc]; omega)]; exact hf)) rfl rfl (ly_kI hly) ⟨_, _, rfl, by decide⟩ dL_act_415 rfl ⟨by simp only [jj_N]; omega, by simp only [jj_N]; omega⟩ rfl) ?_
        generalize f_load b g y J = F at L1
        refine jr_aload hX dL_act_418 rfl ?_
        refine jr_ret (jr_runV hX hSt kM_L_86 (s_all (jj_fl hX) hsy hb) rfl rfl (sy_kB hsy (by first | assumption | omega)) ⟨_, _, rfl, by decide⟩ dL_act_420 rfl ⟨by simp only [jj_N]; omega, by simp only [jj_N]; omega⟩ rfl) ?_
        rw [s_al_eq L1.2.2.1 hb]
        refine jr_icmp_ne (tgt := 430) hX dL_act_423 (by decide) (fun c_423 => absurd c_423 (show ¬ ¬ _ = _ from fun q => q rfl)) (fun c_423 => ?_)
        refine jr_iconst (v := 1) hX dL_act_426 (by decide) ?_
        refine jr_goto (tgt := 431) hX dL_act_427 (by decide) ?_
        exact jr_zret hX (Or.inr rfl) dL_act_431 (Nat.ble_eq.mpr (by first | (dsimp only; omega) | (simp only [jj_N]; omega))) (Nat.ble_eq.mpr (by first | (dsimp only; omega) | (simp only [jj_N]; omega))) ⟨rfl, rfl, A, N, rfl, L1⟩
      · refine jr_iconst (v := 1) hX dL_act_369 (by decide) ?_
        exact jr_zret hX (Or.inr rfl) dL_act_370 (Nat.ble_eq.mpr (by first | (dsimp only; omega) | (simp only [jj_N]; omega))) (Nat.ble_eq.mpr (by first | (dsimp only; omega) | (simp only [jj_N]; omega))) ⟨rfl, rfl, A, N, rfl, lv_st hv (by omega) ht⟩
  · refine jr_iconst (v := 1) hX dL_act_301 (by decide) ?_
    exact jr_zret hX (Or.inr rfl) dL_act_302 (Nat.ble_eq.mpr (by first | (dsimp only; omega) | (simp only [jj_N]; omega))) (Nat.ble_eq.mpr (by first | (dsimp only; omega) | (simp only [jj_N]; omega))) ⟨rfl, rfl, A, N, rfl, lv_st hv (by omega) ht⟩
