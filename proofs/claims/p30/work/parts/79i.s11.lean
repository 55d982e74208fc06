set_option maxHeartbeats 4000000 in
set_option maxRecDepth 100000 in
theorem l_act_4 {l : Launch} (hfl : l.stackTraces = false) {D : jj_D} {n : Nat} {K : jj_K} {I : jj_I} {P : jj_P} {G : jj_G} {A : Nat → Nat} {H M B N t : Nat} {x : Int32} (hv : lv A H M B N n t K I P) (ht : t + 2 ≤ 512) (e9 : bw (x >>> (9 &&& 31)) 10 = 4) :
    jj_Met l D yL_act (jj_ws yL_act cL_act 16 (some .boolean)) { frames := 9, cells := 2, slots := 38, locals := 159 } [.ref 1, .ref (A 0), .int x] n K I P G (fun r n1 K1 I1 P1 G1 => G1 = G ∧ r = some (.int 1) ∧ ∃ A1 N1, A1 0 = A 0 ∧ lv A1 H M B N1 n1 (t + 2) K1 I1 P1) jj_noX := by
  refine jj_of hfl (by decide +kernel) [some (.ref 1), some (.ref (A 0)), some (.int x), none, none, none, none, none, none, none, none, none, none, none, none, none] rfl rfl ?_
  intro X hXl hX hSt
  obtain ⟨hly, hsy, hms, htc, hdz, hH, hM, hB⟩ := id hv
  obtain ⟨hH8, hM5, hB10, hN30⟩ := id hsy.1
  have g0 := sy_lt hsy (t := 0) sv_0
  have g4 := sy_lt hsy (t := 4) sv_4
  refine jr_aload_n hX dL_act_0 rfl ?_
  refine jr_getr hX kF_L_41 rfl (sy_k0 hsy) (sy_p0_1 hsy) dL_act_1 ?_
  refine jr_alen (t := 15) hX (by decide) (sy_k5 hsy) dL_act_4 ?_
  refine jr_istore_n hX dL_act_5 rfl ?_
  refine jr_iload_n hX dL_act_6 rfl ?_
  refine jr_aload_n hX dL_act_7 rfl ?_
  refine jr_getr hX kF_L_49 rfl (sy_k0 hsy) (sy_p0_4 hsy) dL_act_8 ?_
  refine jr_alen (t := 10) hX (by decide) (sy_k4 hsy) dL_act_11 ?_
  refine jr_ret (jr_runS hX hSt kM_L_18 (l_below (jj_fl hX) (m := M) (rfl) ⟨by omega, by omega⟩) rfl rfl dL_act_12 rfl ⟨by simp only [jj_N]; omega, by simp only [jj_N]; omega⟩ rfl) ?_
  have hm := bw_lt (v := x) (m := M) (by omega)
  generalize bw x M = m at hm
  refine jr_istore hX dL_act_15 rfl ?_
  refine jr_iload_n hX dL_act_17 rfl ?_
  refine jr_iconst (v := 2) hX dL_act_18 (by decide) ?_
  refine jr_ishr hX dL_act_19 ?_
  refine jr_iload_n hX dL_act_20 rfl ?_
  refine jr_ret (jr_runS hX hSt kM_L_18 (l_below (jj_fl hX) (m := H) (rfl) ⟨by omega, by omega⟩) rfl rfl dL_act_21 rfl ⟨by simp only [jj_N]; omega, by simp only [jj_N]; omega⟩ rfl) ?_
  have hh := bw_lt (v := (x >>> (2 &&& 31))) (m := H) (by omega)
  generalize bw (x >>> (2 &&& 31)) H = h at hh
  refine jr_istore hX dL_act_24 rfl ?_
  refine jr_iload_n hX dL_act_26 rfl ?_
  refine jr_iconst (v := 3) hX dL_act_27 (by decide) ?_
  refine jr_ishr hX dL_act_28 ?_
  refine jr_iconst (v := 4) hX dL_act_29 (by decide) ?_
  refine jr_ret (jr_runS hX hSt kM_L_18 (l_below (jj_fl hX) (m := 4) (show _ = nI 4 from rfl) (by decide)) rfl rfl dL_act_30 rfl ⟨by simp only [jj_N]; omega, by simp only [jj_N]; omega⟩ rfl) ?_
  have hg := bw_lt (v := (x >>> (3 &&& 31))) (m := 4) (by decide)
  generalize bw (x >>> (3 &&& 31)) 4 = g at hg
  refine jr_istore hX dL_act_33 rfl ?_
  refine jr_iload_n hX dL_act_35 rfl ?_
  refine jr_iconst (v := 4) hX dL_act_36 (by decide) ?_
  refine jr_ishr hX dL_act_37 ?_
  refine jr_aload_n hX dL_act_38 rfl ?_
  refine jr_getr hX kF_L_62 rfl (sy_k0 hsy) (sy_p0_6 hsy) dL_act_39 ?_
  refine jr_alen (t := 17) hX (by decide) (sy_k6 hsy) dL_act_42 ?_
  refine jr_ret (jr_runS hX hSt kM_L_18 (l_below (jj_fl hX) (m := B) (rfl) ⟨by omega, by omega⟩) rfl rfl dL_act_43 rfl ⟨by simp only [jj_N]; omega, by simp only [jj_N]; omega⟩ rfl) ?_
  have hb := bw_lt (v := (x >>> (4 &&& 31))) (m := B) (by omega)
  generalize bw (x >>> (4 &&& 31)) B = b at hb
  obtain ⟨q0, q1, q2, q3, q4, q5, q6, q7, q8⟩ := hms.2.2.2.2.2.2.1 b hb
  have est := hms.2.2.2.2.2.2.2.2
  have gS := fun (m h : Nat) (hm : m < 5) (hh : h < 8) => sy_lt hsy (t := 110 + 8 * m + h) (sv_S hsy.1 hm hh)
  have gB := sy_lt hsy (t := 20 + b) (sv_B hsy.1 hb)
  have gG := sy_lt hsy (t := 40 + b) (sv_G hsy.1 hb)
  have hfB := htc.1.2.2.2.2.1 b hb
  refine jr_istore hX dL_act_46 rfl ?_
  refine jr_aload_n hX dL_act_48 rfl ?_
  refine jr_getr hX kF_L_62 rfl (sy_k0 hsy) (sy_p0_6 hsy) dL_act_49 ?_
  refine jr_iload hX dL_act_52 rfl ?_
  refine jr_aald (t := 17) hX (by decide) (sy_k6 hsy) rfl (by omega) (sy_qB hsy (by omega)) dL_act_54 ?_
  refine jr_astore hX dL_act_55 rfl ?_
  refine jr_iload_n hX dL_act_57 rfl ?_
  refine jr_bipush (v := 9) hX dL_act_58 (by decide) ?_
  refine jr_ishr hX dL_act_60 ?_
  refine jr_bipush (v := 10) hX dL_act_61 (by decide) ?_
  refine jr_ret (jr_runS hX hSt kM_L_18 (l_below (jj_fl hX) (m := 10) (show _ = nI 10 from rfl) (by decide)) rfl rfl dL_act_63 rfl ⟨by simp only [jj_N]; omega, by simp only [jj_N]; omega⟩ rfl) ?_
  rw [e9]
  refine jr_tabIn (tgt := 432) hX dL_act_66 (by decide) (by decide) rfl (by decide) ?_
  refine jr_aload hX dL_act_432 rfl ?_
  refine jr_geti hX kF_L_77 rfl (sy_kB hsy (by first | assumption | omega)) dL_act_434 ?_
  rw [q3]
  refine jr_iconst (v := 3) hX dL_act_437 (by decide) ?_
  refine jr_icmp_ne (tgt := 443) hX dL_act_438 (by decide) (fun c_438 => ?_) (fun c_438 => ?_)
  · obtain ⟨a, ha, e4⟩ := hfB.2.2.1 c_438
    refine jr_aload hX dL_act_443 rfl ?_
    refine jr_iload hX dL_act_445 rfl ?_
    refine jr_puti hX kF_L_107 rfl (sy_kB hsy (by first | assumption | omega)) (sy_zB hsy (by first | assumption | omega)) dL_act_447 ?_
    have eq : eqA (jj_u I (A (20 + b)) 5 (nI h)) I := eqA_w (fun _ _ => rfl) gB.1
    have L1 := la_send hv ht hb hh
    rw [show jj_u (jj_u I (A (20 + b)) 5 (nI h)) (aB 0 b) 6 (nI h) = jj_u (jj_u I (A (20 + b)) 5 (nI h)) (aB 0 b) 6 (nI h) from rfl] at L1
    generalize jj_u I (A (20 + b)) 5 (nI h) = J at L1 eq
    have eB := eq (aB 0 b) (by simp only [aB]; omega)
    refine jr_aload_n hX dL_act_450 rfl ?_
    refine jr_iload hX dL_act_451 rfl ?_
    refine jr_iload hX dL_act_453 rfl ?_
    refine jr_ret (jr_runV hX hSt kM_L_110 (c_send_ok (jj_fl hX) hly (eqA_sf eq htc.1) hb hh (by rw [eB]; exact c_438)) rfl rfl (ly_kI hly) ⟨_, _, rfl, by decide⟩ dL_act_455 rfl ⟨by simp only [jj_N]; omega, by simp only [jj_N]; omega⟩ rfl) ?_
    rw [eB, e4, nv_nI (by omega)]
    have eF : jj_u J (aB 0 b) 6 (nI h) (aB 0 b) 4 = nI a := by rw [jj_u_nk (by decide), eB]; exact e4
    generalize jj_u J (aB 0 b) 6 (nI h) = F at L1 eF
    obtain ⟨r0, r1, r2, r3, r4, r5, r6, r7, r8⟩ := L1.2.2.1.2.2.2.2.2.2.1 b hb
    refine jr_aload hX dL_act_458 rfl ?_
    refine jr_geti hX kF_L_113 rfl (sy_kB hsy (by first | assumption | omega)) dL_act_460 ?_
    rw [r6]
    refine jr_aload_n hX dL_act_463 rfl ?_
    refine jr_aload hX dL_act_464 rfl ?_
    refine jr_geti hX kF_L_98 rfl (sy_kB hsy (by first | assumption | omega)) dL_act_466 ?_
    rw [r4, eF]
    refine jr_iload hX dL_act_469 rfl ?_
    refine jr_ret (jr_runV hX hSt kM_L_116 (s_way (jj_fl hX) hsy (a := a) (b := h) (by omega) (by omega)) rfl rfl (sy_k0 hsy) ⟨_, _, rfl, by decide⟩ dL_act_471 rfl ⟨by simp only [jj_N]; omega, by simp only [jj_N]; omega⟩ rfl) ?_
    rw [wy_eq L1.2.2.1 ha hh]
    refine jr_iadd hX dL_act_474 ?_
    refine jr_icmp_ne (tgt := 482) hX dL_act_475 (by decide) (fun c_475 => absurd c_475 (show ¬ ¬ _ = _ from fun q => q rfl)) (fun c_475 => ?_)
    refine jr_iconst (v := 1) hX dL_act_478 (by decide) ?_
    refine jr_goto (tgt := 483) hX dL_act_479 (by decide) ?_
    exact jr_zret hX (Or.inr rfl) dL_act_483 (Nat.ble_eq.mpr (by first | (dsimp only; omega) | (simp only [jj_N]; omega))) (Nat.ble_eq.mpr (by first | (dsimp only; omega) | (simp only [jj_N]; omega))) ⟨rfl, rfl, A, N, rfl, L1⟩
  · refine jr_iconst (v := 1) hX dL_act_441 (by decide) ?_
    exact jr_zret hX (Or.inr rfl) dL_act_442 (Nat.ble_eq.mpr (by first | (dsimp only; omega) | (simp only [jj_N]; omega))) (Nat.ble_eq.mpr (by first | (dsimp only; omega) | (simp only [jj_N]; omega))) ⟨rfl, rfl, A, N, rfl, lv_st hv (by omega) ht⟩
set_option maxHeartbeats 4000000 in
set_option maxRecDepth 100000 in
theorem l_act_5 {l : Launch} (hfl : l.stackTraces = false) {D : jj_D} {n : Nat} {K : jj_K} {I : jj_I} {P : jj_P} {G : jj_G} {A : Nat → Nat} {H M B N t : Nat} {x : Int32} (hv : lv A H M B N n t K I P) (ht : t + 2 ≤ 512) (e9 : bw (x >>> (9 &&& 31)) 10 = 5) :
    jj_Met l D yL_act (jj_ws yL_act cL_act 16 (some .boolean)) { frames := 9, cells := 2, slots := 38, locals := 159 } [.ref 1, .ref (A 0), .int x] n K I P G (fun r n1 K1 I1 P1 G1 => G1 = G ∧ r = some (.int 1) ∧ ∃ A1 N1, A1 0 = A 0 ∧ lv A1 H M B N1 n1 (t + 2) K1 I1 P1) jj_noX := by
  refine jj_of hfl (by decide +kernel) [some (.ref 1), some (.ref (A 0)), some (.int x), none, none, none, none, none, none, none, none, none, none, none, none, none] rfl rfl ?_
  intro X hXl hX hSt
  obtain ⟨hly, hsy, hms, htc, hdz, hH, hM, hB⟩ := id hv
  obtain ⟨hH8, hM5, hB10, hN30⟩ := id hsy.1
  have g0 := sy_lt hsy (t := 0) sv_0
  have g4 := sy_lt hsy (t := 4) sv_4
  refine jr_aload_n hX dL_act_0 rfl ?_
  refine jr_getr hX kF_L_41 rfl (sy_k0 hsy) (sy_p0_1 hsy) dL_act_1 ?_
  refine jr_alen (t := 15) hX (by decide) (sy_k5 hsy) dL_act_4 ?_
  refine jr_istore_n hX dL_act_5 rfl ?_
  refine jr_iload_n hX dL_act_6 rfl ?_
  refine jr_aload_n hX dL_act_7 rfl ?_
  refine jr_getr hX kF_L_49 rfl (sy_k0 hsy) (sy_p0_4 hsy) dL_act_8 ?_
  refine jr_alen (t := 10) hX (by decide) (sy_k4 hsy) dL_act_11 ?_
  refine jr_ret (jr_runS hX hSt kM_L_18 (l_below (jj_fl hX) (m := M) (rfl) ⟨by omega, by omega⟩) rfl rfl dL_act_12 rfl ⟨by simp only [jj_N]; omega, by simp only [jj_N]; omega⟩ rfl) ?_
  have hm := bw_lt (v := x) (m := M) (by omega)
  generalize bw x M = m at hm
  refine jr_istore hX dL_act_15 rfl ?_
  refine jr_iload_n hX dL_act_17 rfl ?_
  refine jr_iconst (v := 2) hX dL_act_18 (by decide) ?_
  refine jr_ishr hX dL_act_19 ?_
  refine jr_iload_n hX dL_act_20 rfl ?_
  refine jr_ret (jr_runS hX hSt kM_L_18 (l_below (jj_fl hX) (m := H) (rfl) ⟨by omega, by omega⟩) rfl rfl dL_act_21 rfl ⟨by simp only [jj_N]; omega, by simp only [jj_N]; omega⟩ rfl) ?_
  have hh := bw_lt (v := (x >>> (2 &&& 31))) (m := H) (by omega)
  generalize bw (x >>> (2 &&& 31)) H = h at hh
  refine jr_istore hX dL_act_24 rfl ?_
  refine jr_iload_n hX dL_act_26 rfl ?_
  refine jr_iconst (v := 3) hX dL_act_27 (by decide) ?_
  refine jr_ishr hX dL_act_28 ?_
  refine jr_iconst (v := 4) hX dL_act_29 (by decide) ?_
  refine jr_ret (jr_runS hX hSt kM_L_18 (l_below (jj_fl hX) (m := 4) (show _ = nI 4 from rfl) (by decide)) rfl rfl dL_act_30 rfl ⟨by simp only [jj_N]; omega, by simp only [jj_N]; omega⟩ rfl) ?_
  have hg := bw_lt (v := (x >>> (3 &&& 31))) (m := 4) (by decide)
  generalize bw (x >>> (3 &&& 31)) 4 = g at hg
  refine jr_istore hX dL_act_33 rfl ?_
  refine jr_iload_n hX dL_act_35 rfl ?_
  refine jr_iconst (v := 4) hX dL_act_36 (by decide) ?_
  refine jr_ishr hX dL_act_37 ?_
  refine jr_aload_n hX dL_act_38 rfl ?_
  refine jr_getr hX kF_L_62 rfl (sy_k0 hsy) (sy_p0_6 hsy) dL_act_39 ?_
  refine jr_alen (t := 17) hX (by decide) (sy_k6 hsy) dL_act_42 ?_
  refine jr_ret (jr_runS hX hSt kM_L_18 (l_below (jj_fl hX) (m := B) (rfl) ⟨by omega, by omega⟩) rfl rfl dL_act_43 rfl ⟨by simp only [jj_N]; omega, by simp only [jj_N]; omega⟩ rfl) ?_
  have hb := bw_lt (v := (x >>> (4 &&& 31))) (m := B) (by omega)
  generalize bw (x >>> (4 &&& 31)) B = b at hb
  obtain ⟨q0, q1, q2, q3, q4, q5, q6, q7, q8⟩ := hms.2.2.2.2.2.2.1 b hb
  have est := hms.2.2.2.2.2.2.2.2
  have gS := fun (m h : Nat) (hm : m < 5) (hh : h < 8) => sy_lt hsy (t := 110 + 8 * m + h) (sv_S hsy.1 hm hh)
  have gB := sy_lt hsy (t := 20 + b) (sv_B hsy.1 hb)
  have gG := sy_lt hsy (t := 40 + b) (sv_G hsy.1 hb)
  have hfB := htc.1.2.2.2.2.1 b hb
  refine jr_istore hX dL_act_46 rfl ?_
  refine jr_aload_n hX dL_act_48 rfl ?_
  refine jr_getr hX kF_L_62 rfl (sy_k0 hsy) (sy_p0_6 hsy) dL_act_49 ?_
  refine jr_iload hX dL_act_52 rfl ?_
  refine jr_aald (t := 17) hX (by decide) (sy_k6 hsy) rfl (by omega) (sy_qB hsy (by omega)) dL_act_54 ?_
  refine jr_astore hX dL_act_55 rfl ?_
  refine jr_iload_n hX dL_act_57 rfl ?_
  refine jr_bipush (v := 9) hX dL_act_58 (by decide) ?_
  refine jr_ishr hX dL_act_60 ?_
  refine jr_bipush (v := 10) hX dL_act_61 (by decide) ?_
  refine jr_ret (jr_runS hX hSt kM_L_18 (l_below (jj_fl hX) (m := 10) (show _ = nI 10 from rfl) (by decide)) rfl rfl dL_act_63 rfl ⟨by simp only [jj_N]; omega, by simp only [jj_N]; omega⟩ rfl) ?_
  rw [e9]
  refine jr_tabIn (tgt := 432) hX dL_act_66 (by decide) (by decide) rfl (by decide) ?_
  refine jr_aload hX dL_act_432 rfl ?_
  refine jr_geti hX kF_L_77 rfl (sy_kB hsy (by first | assumption | omega)) dL_act_434 ?_
  rw [q3]
  refine jr_iconst (v := 3) hX dL_act_437 (by decide) ?_
  refine jr_icmp_ne (tgt := 443) hX dL_act_438 (by decide) (fun c_438 => ?_) (fun c_438 => ?_)
  · obtain ⟨a, ha, e4⟩ := hfB.2.2.1 c_438
    refine jr_aload hX dL_act_443 rfl ?_
    refine jr_iload hX dL_act_445 rfl ?_
    refine jr_puti hX kF_L_107 rfl (sy_kB hsy (by first | assumption | omega)) (sy_zB hsy (by first | assumption | omega)) dL_act_447 ?_
    have eq : eqA (jj_u I (A (20 + b)) 5 (nI h)) I := eqA_w (fun _ _ => rfl) gB.1
    have L1 := la_send hv ht hb hh
    rw [show jj_u (jj_u I (A (20 + b)) 5 (nI h)) (aB 0 b) 6 (nI h) = jj_u (jj_u I (A (20 + b)) 5 (nI h)) (aB 0 b) 6 (nI h) from rfl] at L1
    generalize jj_u I (A (20 + b)) 5 (nI h) = J at L1 eq
    have eB := eq (aB 0 b) (by simp only [aB]; omega)
    refine jr_aload_n hX dL_act_450 rfl ?_
    refine jr_iload hX dL_act_451 rfl ?_
    refine jr_iload hX dL_act_453 rfl ?_
    refine jr_ret (jr_runV hX hSt kM_L_110 (c_send_ok (jj_fl hX) hly (eqA_sf eq htc.1) hb hh (by rw [eB]; exact c_438)) rfl rfl (ly_kI hly) ⟨_, _, rfl, by decide⟩ dL_act_455 rfl ⟨by simp only [jj_N]; omega, by simp only [jj_N]; omega⟩ rfl) ?_
    rw [eB, e4, nv_nI (by omega)]
    have eF : jj_u J (aB 0 b) 6 (nI h) (aB 0 b) 4 = nI a := by rw [jj_u_nk (by decide), eB]; exact e4
    generalize jj_u J (aB 0 b) 6 (nI h) = F at L1 eF
    obtain ⟨r0, r1, r2, r3, r4, r5, r6, r7, r8⟩ := L1.2.2.1.2.2.2.2.2.2.1 b hb
    refine jr_aload hX dL_act_458 rfl ?_
    refine jr_geti hX kF_L_113 rfl (sy_kB hsy (by first | assumption | omega)) dL_act_460 ?_
    rw [r6]
    refine jr_aload_n hX dL_act_463 rfl ?_
    refine jr_aload hX dL_act_464 rfl ?_
    refine jr_geti hX kF_L_98 rfl (sy_kB hsy (by first | assumption | omega)) dL_act_466 ?_
    rw [r4, eF]
    refine jr_iload hX dL_act_469 rfl ?_
    refine jr_ret (jr_runV hX hSt kM_L_116 (s_way (jj_fl hX) hsy (a := a) (b := h) (by omega) (by omega)) rfl rfl (sy_k0 hsy) ⟨_, _, rfl, by decide⟩ dL_act_471 rfl ⟨by simp only [jj_N]; omega, by simp only [jj_N]; omega⟩ rfl) ?_
    rw [wy_eq L1.2.2.1 ha hh]
    refine jr_iadd hX dL_act_474 ?_
    refine jr_icmp_ne (tgt := 482) hX dL_act_475 (by decide) (fun c_475 => absurd c_475 (show ¬ ¬ _ = _ from fun q => q rfl)) (fun c_475 => ?_)
    refine jr_iconst (v := 1) hX dL_act_478 (by decide) ?_
    refine jr_goto (tgt := 483) hX dL_act_479 (by decide) ?_
    exact jr_zret hX (Or.inr rfl) dL_act_483 (Nat.ble_eq.mpr (by first | (dsimp only; omega) | (simp only [jj_N]; omega))) (Nat.ble_eq.mpr (by first | (dsimp only; omega) | (simp only [jj_N]; omega))) ⟨rfl, rfl, A, N, rfl, L1⟩
  · refine jr_iconst (v := 1) hX dL_act_441 (by decide) ?_
    exact jr_zret hX (Or.inr rfl) dL_act_442 (Nat.ble_eq.mpr (by first | (dsimp only; omega) | (simp only [jj_N]; omega))) (Nat.ble_eq.mpr (by first | (dsimp only; omega) | (simp only [jj_N]; omega))) ⟨rfl, rfl, A, N, rfl, lv_st hv (by omega) ht⟩
set_option maxHeartbeats 4000000 in
set_option maxRecDepth 100000 in
theorem l_act_6 {l : Launch} (hfl : l.stackTraces = false) {D : jj_D} {n : Nat} {K : jj_K} {I : jj_I} {P : jj_P} {G : jj_G} {A : Nat → Nat} {H M B N t : Nat} {x : Int32} (hv : lv A H M B N n t K I P) (ht : t + 2 ≤ 512) (e9 : bw (x >>> (9 &&& 31)) 10 = 6) :
    jj_Met l D yL_act (jj_ws yL_act cL_act 16 (some .boolean)) { frames := 9, cells := 2, slots := 38, locals := 159 } [.ref 1, .ref (A 0), .int x] n K I P G (fun r n1 K1 I1 P1 G1 => G1 = G ∧ r = some (.int 1) ∧ ∃ A1 N1, A1 0 = A 0 ∧ lv A1 H M B N1 n1 (t + 2) K1 I1 P1) jj_noX := by
  refine jj_of hfl (by decide +kernel) [some (.ref 1), some (.ref (A 0)), some (.int x), none, none, none, none, none, none, none, none, none, none, none, none, none] rfl rfl ?_
  intro X hXl hX hSt
  obtain ⟨hly, hsy, hms, htc, hdz, hH, hM, hB⟩ := id hv
  obtain ⟨hH8, hM5, hB10, hN30⟩ := id hsy.1
  have g0 := sy_lt hsy (t := 0) sv_0
  have g4 := sy_lt hsy (t := 4) sv_4
  refine jr_aload_n hX dL_act_0 rfl ?_
  refine jr_getr hX kF_L_41 rfl (sy_k0 hsy) (sy_p0_1 hsy) dL_act_1 ?_
  refine jr_alen (t := 15) hX (by decide) (sy_k5 hsy) dL_act_4 ?_
  refine jr_istore_n hX dL_act_5 rfl ?_
  refine jr_iload_n hX dL_act_6 rfl ?_
  refine jr_aload_n hX dL_act_7 rfl ?_
  refine jr_getr hX kF_L_49 rfl (sy_k0 hsy) (sy_p0_4 hsy) dL_act_8 ?_
  refine jr_alen (t := 10) hX (by decide) (sy_k4 hsy) dL_act_11 ?_
  refine jr_ret (jr_runS hX hSt kM_L_18 (l_below (jj_fl hX) (m := M) (rfl) ⟨by omega, by omega⟩) rfl rfl dL_act_12 rfl ⟨by simp only [jj_N]; omega, by simp only [jj_N]; omega⟩ rfl) ?_
  have hm := bw_lt (v := x) (m := M) (by omega)
  generalize bw x M = m at hm
  refine jr_istore hX dL_act_15 rfl ?_
  refine jr_iload_n hX dL_act_17 rfl ?_
  refine jr_iconst (v := 2) hX dL_act_18 (by decide) ?_
  refine jr_ishr hX dL_act_19 ?_
  refine jr_iload_n hX dL_act_20 rfl ?_
  refine jr_ret (jr_runS hX hSt kM_L_18 (l_below (jj_fl hX) (m := H) (rfl) ⟨by omega, by omega⟩) rfl rfl dL_act_21 rfl ⟨by simp only [jj_N]; omega, by simp only [jj_N]; omega⟩ rfl) ?_
  have hh := bw_lt (v := (x >>> (2 &&& 31))) (m := H) (by omega)
  generalize bw (x >>> (2 &&& 31)) H = h at hh
  refine jr_istore hX dL_act_24 rfl ?_
  refine jr_iload_n hX dL_act_26 rfl ?_
  refine jr_iconst (v := 3) hX dL_act_27 (by decide) ?_
  refine jr_ishr hX dL_act_28 ?_
  refine jr_iconst (v := 4) hX dL_act_29 (by decide) ?_
  refine jr_ret (jr_runS hX hSt kM_L_18 (l_below (jj_fl hX) (m := 4) (show _ = nI 4 from rfl) (by decide)) rfl rfl dL_act_30 rfl ⟨by simp only [jj_N]; omega, by simp only [jj_N]; omega⟩ rfl) ?_
  have hg := bw_lt (v := (x >>> (3 &&& 31))) (m := 4) (by decide)
  generalize bw (x >>> (3 &&& 31)) 4 = g at hg
  refine jr_istore hX dL_act_33 rfl ?_
  refine jr_iload_n hX dL_act_35 rfl ?_
  refine jr_iconst (v := 4) hX dL_act_36 (by decide) ?_
  refine jr_ishr hX dL_act_37 ?_
  refine jr_aload_n hX dL_act_38 rfl ?_
  refine jr_getr hX kF_L_62 rfl (sy_k0 hsy) (sy_p0_6 hsy) dL_act_39 ?_
  refine jr_alen (t := 17) hX (by decide) (sy_k6 hsy) dL_act_42 ?_
  refine jr_ret (jr_runS hX hSt kM_L_18 (l_below (jj_fl hX) (m := B) (rfl) ⟨by omega, by omega⟩) rfl rfl dL_act_43 rfl ⟨by simp only [jj_N]; omega, by simp only [jj_N]; omega⟩ rfl) ?_
  have hb := bw_lt (v := (x >>> (4 &&& 31))) (m := B) (by omega)
  generalize bw (x >>> (4 &&& 31)) B = b at hb
  obtain ⟨q0, q1, q2, q3, q4, q5, q6, q7, q8⟩ := hms.2.2.2.2.2.2.1 b hb
  have est := hms.2.2.2.2.2.2.2.2
  have gS := fun (m h : Nat) (hm : m < 5) (hh : h < 8) => sy_lt hsy (t := 110 + 8 * m + h) (sv_S hsy.1 hm hh)
  have gB := sy_lt hsy (t := 20 + b) (sv_B hsy.1 hb)
  have gG := sy_lt hsy (t := 40 + b) (sv_G hsy.1 hb)
  have hfB := htc.1.2.2.2.2.1 b hb
  refine jr_istore hX dL_act_46 rfl ?_
  refine jr_aload_n hX dL_act_48 rfl ?_
  refine jr_getr hX kF_L_62 rfl (sy_k0 hsy) (sy_p0_6 hsy) dL_act_49 ?_
  refine jr_iload hX dL_act_52 rfl ?_
  refine jr_aald (t := 17) hX (by decide) (sy_k6 hsy) rfl (by omega) (sy_qB hsy (by omega)) dL_act_54 ?_
  refine jr_astore hX dL_act_55 rfl ?_
  refine jr_iload_n hX dL_act_57 rfl ?_
  refine jr_bipush (v := 9) hX dL_act_58 (by decide) ?_
  refine jr_ishr hX dL_act_60 ?_
  refine jr_bipush (v := 10) hX dL_act_61 (by decide) ?_
  refine jr_ret (jr_runS hX hSt kM_L_18 (l_below (jj_fl hX) (m := 10) (show _ = nI 10 from rfl) (by decide)) rfl rfl dL_act_63 rfl ⟨by simp only [jj_N]; omega, by simp only [jj_N]; omega⟩ rfl) ?_
  rw [e9]
  refine jr_tabIn (tgt := 432) hX dL_act_66 (by decide) (by decide) rfl (by decide) ?_
  refine jr_aload hX dL_act_432 rfl ?_
  refine jr_geti hX kF_L_77 rfl (sy_kB hsy (by first | assumption | omega)) dL_act_434 ?_
  rw [q3]
  refine jr_iconst (v := 3) hX dL_act_437 (by decide) ?_
  refine jr_icmp_ne (tgt := 443) hX dL_act_438 (by decide) (fun c_438 => ?_) (fun c_438 => ?_)
  · obtain ⟨a, ha, e4⟩ := hfB.2.2.1 c_438
    refine jr_aload hX dL_act_443 rfl ?_
    refine jr_iload hX dL_act_445 rfl ?_
    refine jr_puti hX kF_L_107 rfl (sy_kB hsy (by first | assumption | omega)) (sy_zB hsy (by first | assumption | omega)) dL_act_447 ?_
    have eq : eqA (jj_u I (A (20 + b)) 5 (nI h)) I := eqA_w (fun _ _ => rfl) gB.1
    have L1 := la_send hv ht hb hh
    rw [show jj_u (jj_u I (A (20 + b)) 5 (nI h)) (aB 0 b) 6 (nI h) = jj_u (jj_u I (A (20 + b)) 5 (nI h)) (aB 0 b) 6 (nI h) from rfl] at L1
    generalize jj_u I (A (20 + b)) 5 (nI h) = J at L1 eq
    have eB := eq (aB 0 b) (by simp only [aB]; omega)
    refine jr_aload_n hX dL_act_450 rfl ?_
    refine jr_iload hX dL_act_451 rfl ?_
    refine jr_iload hX dL_act_453 rfl ?_
    refine jr_ret (jr_runV hX hSt kM_L_110 (c_send_ok (jj_fl hX) hly (eqA_sf eq htc.1) hb hh (by rw [eB]; exact c_438)) rfl rfl (ly_kI hly) ⟨_, _, rfl, by decide⟩ dL_act_455 rfl ⟨by simp only [jj_N]; omega, by simp only [jj_N]; omega⟩ rfl) ?_
    rw [eB, e4, nv_nI (by omega)]
    have eF : jj_u J (aB 0 b) 6 (nI h) (aB 0 b) 4 = nI a := by rw [jj_u_nk (by decide), eB]; exact e4
    generalize jj_u J (aB 0 b) 6 (nI h) = F at L1 eF
    obtain ⟨r0, r1, r2, r3, r4, r5, r6, r7, r8⟩ := L1.2.2.1.2.2.2.2.2.2.1 b hb
    refine jr_aload hX dL_act_458 rfl ?_
    refine jr_geti hX kF_L_113 rfl (sy_kB hsy (by first | assumption | omega)) dL_act_460 ?_
    rw [r6]
    refine jr_aload_n hX dL_act_463 rfl ?_
    refine jr_aload hX dL_act_464 rfl ?_
    refine jr_geti hX kF_L_98 rfl (sy_kB hsy (by first | assumption | omega)) dL_act_466 ?_
    rw [r4, eF]
    refine jr_iload hX dL_act_469 rfl ?_
    refine jr_ret (jr_runV hX hSt kM_L_116 (s_way (jj_fl hX) hsy (a := a) (b := h) (by omega) (by omega)) rfl rfl (sy_k0 hsy) ⟨_, _, rfl, by decide⟩ dL_act_471 rfl ⟨by simp only [jj_N]; omega, by simp only [jj_N]; omega⟩ rfl) ?_
    rw [wy_eq L1.2.2.1 ha hh]
    refine jr_iadd hX dL_act_474 ?_
    refine jr_icmp_ne (tgt := 482) hX dL_act_475 (by decide) (fun c_475 => absurd c_475 (show ¬ ¬ _ = _ from fun q => q rfl)) (fun c_475 => ?_)
    refine jr_iconst (v := 1) hX dL_act_478 (by decide) ?_
    refine jr_goto (tgt := 483) hX dL_act_479 (by decide) ?_
    exact jr_zret hX (Or.inr rfl) dL_act_483 (Nat.ble_eq.mpr (by first | (dsimp only; omega) | (simp only [jj_N]; omega))) (Nat.ble_eq.mpr (by first | (dsimp only; omega) | (simp only [jj_N]; omega))) ⟨rfl, rfl, A, N, rfl, L1⟩
  · refine jr_iconst (v := 1) hX dL_act_441 (by decide) ?_
    exact jr_zret hX (Or.inr rfl) dL_act_442 (Nat.ble_eq.mpr (by first | (dsimp only; omega) | (simp only [jj_N]; omega))) (Nat.ble_eq.mpr (by first | (dsimp only; omega) | (simp only [jj_N]; omega))) ⟨rfl, rfl, A, N, rfl, lv_st hv (by omega) ht⟩
set_option maxHeartbeats 4000000 in
set_option maxRecDepth 100000 in
theorem l_act_7 {l : Launch} (hfl : l.stackTraces = false) {D : jj_D} {n : Nat} {K : jj_K} {I : jj_I} {P : jj_P} {G : jj_G} {A : Nat → Nat} {H M B N t : Nat} {x : Int32} (hv : lv A H M B N n t K I P) (ht : t + 2 ≤ 512) (e9 : bw (x >>> (9 &&& 31)) 10 = 7) :
    jj_Met l D yL_act (jj_ws yL_act cL_act 16 (some .boolean)) { frames := 9, cells := 2, slots := 38, locals := 159 } [.ref 1, .ref (A 0), .int x] n K I P G (fun r n1 K1 I1 P1 G1 => G1 = G ∧ r = some (.int 1) ∧ ∃ A1 N1, A1 0 = A 0 ∧ lv A1 H M B N1 n1 (t + 2) K1 I1 P1) jj_noX := by
  refine jj_of hfl (by decide +kernel) [some (.ref 1), some (.ref (A 0)), some (.int x), none, none, none, none, none, none, none, none, none, none, none, none, none] rfl rfl ?_
  intro X hXl hX hSt
  obtain ⟨hly, hsy, hms, htc, hdz, hH, hM, hB⟩ := id hv
  obtain ⟨hH8, hM5, hB10, hN30⟩ := id hsy.1
  have g0 := sy_lt hsy (t := 0) sv_0
  have g4 := sy_lt hsy (t := 4) sv_4
  refine jr_aload_n hX dL_act_0 rfl ?_
  refine jr_getr hX kF_L_41 rfl (sy_k0 hsy) (sy_p0_1 hsy) dL_act_1 ?_
  refine jr_alen (t := 15) hX (by decide) (sy_k5 hsy) dL_act_4 ?_
  refine jr_istore_n hX dL_act_5 rfl ?_
  refine jr_iload_n hX dL_act_6 rfl ?_
  refine jr_aload_n hX dL_act_7 rfl ?_
  refine jr_getr hX kF_L_49 rfl (sy_k0 hsy) (sy_p0_4 hsy) dL_act_8 ?_
  refine jr_alen (t := 10) hX (by decide) (sy_k4 hsy) dL_act_11 ?_
  refine jr_ret (jr_runS hX hSt kM_L_18 (l_below (jj_fl hX) (m := M) (rfl) ⟨by omega, by omega⟩) rfl rfl dL_act_12 rfl ⟨by simp only [jj_N]; omega, by simp only [jj_N]; omega⟩ rfl) ?_
  have hm := bw_lt (v := x) (m := M) (by omega)
  generalize bw x M = m at hm
  refine jr_istore hX dL_act_15 rfl ?_
  refine jr_iload_n hX dL_act_17 rfl ?_
  refine jr_iconst (v := 2) hX dL_act_18 (by decide) ?_
  refine jr_ishr hX dL_act_19 ?_
  refine jr_iload_n hX dL_act_20 rfl ?_
  refine jr_ret (jr_runS hX hSt kM_L_18 (l_below (jj_fl hX) (m := H) (rfl) ⟨by omega, by omega⟩) rfl rfl dL_act_21 rfl ⟨by simp only [jj_N]; omega, by simp only [jj_N]; omega⟩ rfl) ?_
  have hh := bw_lt (v := (x >>> (2 &&& 31))) (m := H) (by omega)
  generalize bw (x >>> (2 &&& 31)) H = h at hh
  refine jr_istore hX dL_act_24 rfl ?_
  refine jr_iload_n hX dL_act_26 rfl ?_
  refine jr_iconst (v := 3) hX dL_act_27 (by decide) ?_
  refine jr_ishr hX dL_act_28 ?_
  refine jr_iconst (v := 4) hX dL_act_29 (by decide) ?_
  refine jr_ret (jr_runS hX hSt kM_L_18 (l_below (jj_fl hX) (m := 4) (show _ = nI 4 from rfl) (by decide)) rfl rfl dL_act_30 rfl ⟨by simp only [jj_N]; omega, by simp only [jj_N]; omega⟩ rfl) ?_
  have hg := bw_lt (v := (x >>> (3 &&& 31))) (m := 4) (by decide)
  generalize bw (x >>> (3 &&& 31)) 4 = g at hg
  refine jr_istore hX dL_act_33 rfl ?_
  refine jr_iload_n hX dL_act_35 rfl ?_
  refine jr_iconst (v := 4) hX dL_act_36 (by decide) ?_
  refine jr_ishr hX dL_act_37 ?_
  refine jr_aload_n hX dL_act_38 rfl ?_
  refine jr_getr hX kF_L_62 rfl (sy_k0 hsy) (sy_p0_6 hsy) dL_act_39 ?_
  refine jr_alen (t := 17) hX (by decide) (sy_k6 hsy) dL_act_42 ?_
  refine jr_ret (jr_runS hX hSt kM_L_18 (l_below (jj_fl hX) (m := B) (rfl) ⟨by omega, by omega⟩) rfl rfl dL_act_43 rfl ⟨by simp only [jj_N]; omega, by simp only [jj_N]; omega⟩ rfl) ?_
  have hb := bw_lt (v := (x >>> (4 &&& 31))) (m := B) (by omega)
  generalize bw (x >>> (4 &&& 31)) B = b at hb
  obtain ⟨q0, q1, q2, q3, q4, q5, q6, q7, q8⟩ := hms.2.2.2.2.2.2.1 b hb
  have est := hms.2.2.2.2.2.2.2.2
  have gS := fun (m h : Nat) (hm : m < 5) (hh : h < 8) => sy_lt hsy (t := 110 + 8 * m + h) (sv_S hsy.1 hm hh)
  have gB := sy_lt hsy (t := 20 + b) (sv_B hsy.1 hb)
  have gG := sy_lt hsy (t := 40 + b) (sv_G hsy.1 hb)
  have hfB := htc.1.2.2.2.2.1 b hb
  refine jr_istore hX dL_act_46 rfl ?_
  refine jr_aload_n hX dL_act_48 rfl ?_
  refine jr_getr hX kF_L_62 rfl (sy_k0 hsy) (sy_p0_6 hsy) dL_act_49 ?_
  refine jr_iload hX dL_act_52 rfl ?_
  refine jr_aald (t := 17) hX (by decide) (sy_k6 hsy) rfl (by omega) (sy_qB hsy (by omega)) dL_act_54 ?_
  refine jr_astore hX dL_act_55 rfl ?_
  refine jr_iload_n hX dL_act_57 rfl ?_
  refine jr_bipush (v := 9) hX dL_act_58 (by decide) ?_
  refine jr_ishr hX dL_act_60 ?_
  refine jr_bipush (v := 10) hX dL_act_61 (by decide) ?_
  refine jr_ret (jr_runS hX hSt kM_L_18 (l_below (jj_fl hX) (m := 10) (show _ = nI 10 from rfl) (by decide)) rfl rfl dL_act_63 rfl ⟨by simp only [jj_N]; omega, by simp only [jj_N]; omega⟩ rfl) ?_
  rw [e9]
  refine jr_tabIn (tgt := 484) hX dL_act_66 (by decide) (by decide) rfl (by decide) ?_
  refine jr_aload hX dL_act_484 rfl ?_
  refine jr_geti hX kF_L_77 rfl (sy_kB hsy (by first | assumption | omega)) dL_act_486 ?_
  rw [q3]
  refine jr_iconst (v := 1) hX dL_act_489 (by decide) ?_
  refine jr_icmp_le (tgt := 495) hX dL_act_490 (by decide) (fun c_490 => ?_) (fun c_490 => ?_)
  · have hp := st_01 hfB.2.1 c_490
    obtain ⟨a, be, tk, ha, e4, hbe, ebe, htk, etk, -⟩ := tc_taken htc hb hp
    refine jr_iload_n hX dL_act_495 rfl ?_
    refine jr_iconst (v := 5) hX dL_act_496 (by decide) ?_
    refine jr_ishr hX dL_act_497 ?_
    refine jr_iconst (v := 4) hX dL_act_498 (by decide) ?_
    refine jr_ret (jr_runS hX hSt kM_L_18 (l_below (jj_fl hX) (m := 4) (show _ = nI 4 from rfl) (by decide)) rfl rfl dL_act_499 rfl ⟨by simp only [jj_N]; omega, by simp only [jj_N]; omega⟩ rfl) ?_
    generalize bw (x >>> (5 &&& 31)) 4 = w
    refine jr_if_le (tgt := 509) hX dL_act_502 (by decide) (fun c_502 => ?_) (fun c_502 => ?_)
    · refine jr_iconst (v := 0) hX dL_act_509 (by decide) ?_
      refine jr_istore hX dL_act_510 rfl ?_
      refine jr_iload hX dL_act_512 rfl ?_
      refine jr_if_eq (tgt := 552) hX dL_act_514 (by decide) (fun c_514 => ?_) (fun c_514 => absurd rfl c_514)
      refine jr_aload hX dL_act_552 rfl ?_
      refine jr_iload hX dL_act_554 rfl ?_
      refine jr_if_eq (tgt := 563) hX dL_act_556 (by decide) (fun c_556 => ?_) (fun c_556 => absurd rfl c_556)
      refine jr_iconst (v := 0) hX dL_act_563 (by decide) ?_
      refine jr_puti hX kF_L_77 rfl (sy_kB hsy (by first | assumption | omega)) (sy_zB hsy (by first | assumption | omega)) dL_act_564 ?_
      have hz1 : (0 : Int32) = 0 ∨ (0 : Int32) = 1 := Or.inl rfl
      have hff : ¬ (0 : Int32) = 0 → ¬ I (aB 0 b) 3 = 1 → 1 ≤ I (aBe 0) (nv (I (aB 0 b) 4)) - sm (q_bl 0 (I (aB 0 b) 4) 1 I) B := fun q _ => absurd rfl q
      have eq : eqA (jj_u I (A (20 + b)) 3 0) I := eqA_w (fun _ _ => rfl) gB.1
      have L1 := la_berth hv ht hb hz1 hp hff
      generalize jj_u I (A (20 + b)) 3 0 = J at L1 eq
      have eB := eq (aB 0 b) (by simp only [aB]; omega)
      have eE := eq (aBe 0) (by simp only [aBe]; omega)
      have eQ : sm (q_bl 0 (I (aB 0 b) 4) 1 J) B = sm (q_bl 0 (I (aB 0 b) 4) 1 I) B := sm_congr (fun k hk => by unfold q_bl; rw [eq (aB 0 k) (by simp only [aB]; omega)])
      refine jr_aload_n hX dL_act_567 rfl ?_
      refine jr_iload hX dL_act_568 rfl ?_
      refine jr_iload hX dL_act_570 rfl ?_
      refine jr_ret (jr_runV hX hSt kM_L_122 (c_berth_ok (jj_fl hX) hly (eqA_sf eq htc.1) hb (by rw [eB]; exact hp) (by rw [eB, eE, eQ]; exact hff)) rfl rfl (ly_kI hly) ⟨_, _, rfl, by decide⟩ dL_act_572 rfl ⟨by simp only [jj_N]; omega, by simp only [jj_N]; omega⟩ rfl) ?_
      have eF : f_berth b 0 J (aB 0 b) 4 = nI a := by unfold f_berth; rw [jj_u_nk (by decide), eB]; exact e4
      rw [eF, eB, e4, nv_nI (by omega)]
      generalize f_berth b 0 J = F at L1 eF
      obtain ⟨r0, r1, r2, r3, r4, r5, r6, r7, r8⟩ := L1.2.2.1.2.2.2.2.2.2.1 b hb
      refine jr_aload_n hX dL_act_575 rfl ?_
      refine jr_getr hX kF_L_41 rfl (sy_k0 hsy) (sy_p0_1 hsy) dL_act_576 ?_
      refine jr_aload hX dL_act_579 rfl ?_
      refine jr_geti hX kF_L_98 rfl (sy_kB hsy (by first | assumption | omega)) dL_act_581 ?_
      rw [r4, eF]
      refine jr_aald (t := 15) hX (by decide) (sy_k5 hsy) rfl (by omega) (sy_qH hsy (by omega)) dL_act_584 ?_
      refine jr_iconst (v := 0) hX dL_act_585 (by decide) ?_
      refine jr_iald hX (by first | with_reducible assumption | with_reducible exact sy_k0 hsy | with_reducible exact sy_k1 hsy | with_reducible exact sy_k2 hsy | with_reducible exact sy_k3 hsy | with_reducible exact sy_k4 hsy | with_reducible exact sy_k5 hsy | with_reducible exact sy_k6 hsy | with_reducible exact sy_k7 hsy | with_reducible exact sy_k8 hsy | with_reducible exact sy_kH hsy (by first | assumption | omega) | with_reducible exact sy_kB hsy (by first | assumption | omega) | with_reducible exact sy_kG hsy (by first | assumption | omega) | with_reducible exact sy_kD hsy (by first | assumption | omega) | with_reducible exact sy_kM hsy (by first | assumption | omega) | with_reducible exact sy_kS hsy (by first | assumption | omega) (by first | assumption | omega)) (show _ = nI 0 from rfl) (by omega) dL_act_586 ?_
      rw [(L1.2.2.1.2.2.2.2.2.1 a ha).1]
      refine jr_aload_n hX dL_act_587 rfl ?_
      refine jr_aload hX dL_act_588 rfl ?_
      refine jr_geti hX kF_L_98 rfl (sy_kB hsy (by first | assumption | omega)) dL_act_590 ?_
      rw [r4, eF]
      refine jr_iconst (v := 1) hX dL_act_593 (by decide) ?_
      refine jr_ret (jr_runV hX hSt kM_L_119 (s_inn (jj_fl hX) hsy) rfl rfl (sy_k0 hsy) ⟨_, _, rfl, by decide⟩ dL_act_594 rfl ⟨by simp only [jj_N]; omega, by simp only [jj_N]; omega⟩ rfl) ?_
      rw [s_in_eq L1.2.2.1]
      refine jr_isub hX dL_act_597 ?_
      refine jr_icmp_ne (tgt := 605) hX dL_act_598 (by decide) (fun c_598 => absurd c_598 (show ¬ ¬ _ = _ from fun q => q rfl)) (fun c_598 => ?_)
      refine jr_iconst (v := 1) hX dL_act_601 (by decide) ?_
      refine jr_goto (tgt := 606) hX dL_act_602 (by decide) ?_
      exact jr_zret hX (Or.inr rfl) dL_act_606 (Nat.ble_eq.mpr (by first | (dsimp only; omega) | (simp only [jj_N]; omega))) (Nat.ble_eq.mpr (by first | (dsimp only; omega) | (simp only [jj_N]; omega))) ⟨rfl, rfl, A, N, rfl, L1⟩
    · refine jr_iconst (v := 1) hX dL_act_505 (by decide) ?_
      refine jr_goto (tgt := 510) hX dL_act_506 (by decide) ?_
      refine jr_istore hX dL_act_510 rfl ?_
      refine jr_iload hX dL_act_512 rfl ?_
      refine jr_if_eq (tgt := 552) hX dL_act_514 (by decide) (fun c_514 => absurd c_514 (by decide)) (fun c_514 => ?_)
      refine jr_aload hX dL_act_517 rfl ?_
      refine jr_geti hX kF_L_77 rfl (sy_kB hsy (by first | assumption | omega)) dL_act_519 ?_
      rw [q3]
      refine jr_if_ne (tgt := 552) hX dL_act_522 (by decide) (fun c_522 => ?_) (fun c_522 => ?_)
      · refine jr_aload hX dL_act_552 rfl ?_
        refine jr_iload hX dL_act_554 rfl ?_
        refine jr_if_eq (tgt := 563) hX dL_act_556 (by decide) (fun c_556 => absurd c_556 (by decide)) (fun c_556 => ?_)
        refine jr_iconst (v := 1) hX dL_act_559 (by decide) ?_
        refine jr_goto (tgt := 564) hX dL_act_560 (by decide) ?_
        refine jr_puti hX kF_L_77 rfl (sy_kB hsy (by first | assumption | omega)) (sy_zB hsy (by first | assumption | omega)) dL_act_564 ?_
        have hz1 : (1 : Int32) = 0 ∨ (1 : Int32) = 1 := Or.inr rfl
        have hff : ¬ (1 : Int32) = 0 → ¬ I (aB 0 b) 3 = 1 → 1 ≤ I (aBe 0) (nv (I (aB 0 b) 4)) - sm (q_bl 0 (I (aB 0 b) 4) 1 I) B := fun _ q => absurd (hp.resolve_left c_522) q
        have eq : eqA (jj_u I (A (20 + b)) 3 1) I := eqA_w (fun _ _ => rfl) gB.1
        have L1 := la_berth hv ht hb hz1 hp hff
        generalize jj_u I (A (20 + b)) 3 1 = J at L1 eq
        have eB := eq (aB 0 b) (by simp only [aB]; omega)
        have eE := eq (aBe 0) (by simp only [aBe]; omega)
        have eQ : sm (q_bl 0 (I (aB 0 b) 4) 1 J) B = sm (q_bl 0 (I (aB 0 b) 4) 1 I) B := sm_congr (fun k hk => by unfold q_bl; rw [eq (aB 0 k) (by simp only [aB]; omega)])
        refine jr_aload_n hX dL_act_567 rfl ?_
        refine jr_iload hX dL_act_568 rfl ?_
        refine jr_iload hX dL_act_570 rfl ?_
        refine jr_ret (jr_runV hX hSt kM_L_122 (c_berth_ok (jj_fl hX) hly (eqA_sf eq htc.1) hb (by rw [eB]; exact hp) (by rw [eB, eE, eQ]; exact hff)) rfl rfl (ly_kI hly) ⟨_, _, rfl, by decide⟩ dL_act_572 rfl ⟨by simp only [jj_N]; omega, by simp only [jj_N]; omega⟩ rfl) ?_
        have eF : f_berth b 1 J (aB 0 b) 4 = nI a := by unfold f_berth; rw [jj_u_nk (by decide), eB]; exact e4
        rw [eF, eB, e4, nv_nI (by omega)]
        generalize f_berth b 1 J = F at L1 eF
        obtain ⟨r0, r1, r2, r3, r4, r5, r6, r7, r8⟩ := L1.2.2.1.2.2.2.2.2.2.1 b hb
        refine jr_aload_n hX dL_act_575 rfl ?_
        refine jr_getr hX kF_L_41 rfl (sy_k0 hsy) (sy_p0_1 hsy) dL_act_576 ?_
        refine jr_aload hX dL_act_579 rfl ?_
        refine jr_geti hX kF_L_98 rfl (sy_kB hsy (by first | assumption | omega)) dL_act_581 ?_
        rw [r4, eF]
        refine jr_aald (t := 15) hX (by decide) (sy_k5 hsy) rfl (by omega) (sy_qH hsy (by omega)) dL_act_584 ?_
        refine jr_iconst (v := 0) hX dL_act_585 (by decide) ?_
        refine jr_iald hX (by first | with_reducible assumption | with_reducible exact sy_k0 hsy | with_reducible exact sy_k1 hsy | with_reducible exact sy_k2 hsy | with_reducible exact sy_k3 hsy | with_reducible exact sy_k4 hsy | with_reducible exact sy_k5 hsy | with_reducible exact sy_k6 hsy | with_reducible exact sy_k7 hsy | with_reducible exact sy_k8 hsy | with_reducible exact sy_kH hsy (by first | assumption | omega) | with_reducible exact sy_kB hsy (by first | assumption | omega) | with_reducible exact sy_kG hsy (by first | assumption | omega) | with_reducible exact sy_kD hsy (by first | assumption | omega) | with_reducible exact sy_kM hsy (by first | assumption | omega) | with_reducible exact sy_kS hsy (by first | assumption | omega) (by first | assumption | omega)) (show _ = nI 0 from rfl) (by omega) dL_act_586 ?_
        rw [(L1.2.2.1.2.2.2.2.2.1 a ha).1]
        refine jr_aload_n hX dL_act_587 rfl ?_
        refine jr_aload hX dL_act_588 rfl ?_
        refine jr_geti hX kF_L_98 rfl (sy_kB hsy (by first | assumption | omega)) dL_act_590 ?_
        rw [r4, eF]
        refine jr_iconst (v := 1) hX dL_act_593 (by decide) ?_
        refine jr_ret (jr_runV hX hSt kM_L_119 (s_inn (jj_fl hX) hsy) rfl rfl (sy_k0 hsy) ⟨_, _, rfl, by decide⟩ dL_act_594 rfl ⟨by simp only [jj_N]; omega, by simp only [jj_N]; omega⟩ rfl) ?_
        rw [s_in_eq L1.2.2.1]
        refine jr_isub hX dL_act_597 ?_
        refine jr_icmp_ne (tgt := 605) hX dL_act_598 (by decide) (fun c_598 => absurd c_598 (show ¬ ¬ _ = _ from fun q => q rfl)) (fun c_598 => ?_)
        refine jr_iconst (v := 1) hX dL_act_601 (by decide) ?_
        refine jr_goto (tgt := 606) hX dL_act_602 (by decide) ?_
        exact jr_zret hX (Or.inr rfl) dL_act_606 (Nat.ble_eq.mpr (by first | (dsimp only; omega) | (simp only [jj_N]; omega))) (Nat.ble_eq.mpr (by first | (dsimp only; omega) | (simp only [jj_N]; omega))) ⟨rfl, rfl, A, N, rfl, L1⟩
      · refine jr_aload_n hX dL_act_525 rfl ?_
        refine jr_aload hX dL_act_526 rfl ?_
        refine jr_geti hX kF_L_98 rfl (sy_kB hsy (by first | assumption | omega)) dL_act_528 ?_
        rw [q4]
        refine jr_iconst (v := 1) hX dL_act_531 (by decide) ?_
        refine jr_ret (jr_runV hX hSt kM_L_119 (s_inn (jj_fl hX) hsy) rfl rfl (sy_k0 hsy) ⟨_, _, rfl, by decide⟩ dL_act_532 rfl ⟨by simp only [jj_N]; omega, by simp only [jj_N]; omega⟩ rfl) ?_
        rw [s_in_eq hms, etk]
        refine jr_aload_n hX dL_act_535 rfl ?_
        refine jr_getr hX kF_L_41 rfl (sy_k0 hsy) (sy_p0_1 hsy) dL_act_536 ?_
        refine jr_aload hX dL_act_539 rfl ?_
        refine jr_geti hX kF_L_98 rfl (sy_kB hsy (by first | assumption | omega)) dL_act_541 ?_
        rw [q4, e4]
        refine jr_aald (t := 15) hX (by decide) (sy_k5 hsy) rfl (by omega) (sy_qH hsy (by omega)) dL_act_544 ?_
        refine jr_iconst (v := 0) hX dL_act_545 (by decide) ?_
        refine jr_iald hX (by first | with_reducible assumption | with_reducible exact sy_k0 hsy | with_reducible exact sy_k1 hsy | with_reducible exact sy_k2 hsy | with_reducible exact sy_k3 hsy | with_reducible exact sy_k4 hsy | with_reducible exact sy_k5 hsy | with_reducible exact sy_k6 hsy | with_reducible exact sy_k7 hsy | with_reducible exact sy_k8 hsy | with_reducible exact sy_kH hsy (by first | assumption | omega) | with_reducible exact sy_kB hsy (by first | assumption | omega) | with_reducible exact sy_kG hsy (by first | assumption | omega) | with_reducible exact sy_kD hsy (by first | assumption | omega) | with_reducible exact sy_kM hsy (by first | assumption | omega) | with_reducible exact sy_kS hsy (by first | assumption | omega) (by first | assumption | omega)) (show _ = nI 0 from rfl) (by omega) dL_act_546 ?_
        rw [(hms.2.2.2.2.2.1 a ha).1, ebe]
        refine jr_icmp_ne (tgt := 552) hX dL_act_547 (by decide) (fun c_547 => ?_) (fun c_547 => ?_)
        · refine jr_aload hX dL_act_552 rfl ?_
          refine jr_iload hX dL_act_554 rfl ?_
          refine jr_if_eq (tgt := 563) hX dL_act_556 (by decide) (fun c_556 => absurd c_556 (by decide)) (fun c_556 => ?_)
          refine jr_iconst (v := 1) hX dL_act_559 (by decide) ?_
          refine jr_goto (tgt := 564) hX dL_act_560 (by decide) ?_
          refine jr_puti hX kF_L_77 rfl (sy_kB hsy (by first | assumption | omega)) (sy_zB hsy (by first | assumption | omega)) dL_act_564 ?_
          have hz1 : (1 : Int32) = 0 ∨ (1 : Int32) = 1 := Or.inr rfl
          have hff : ¬ (1 : Int32) = 0 → ¬ I (aB 0 b) 3 = 1 → 1 ≤ I (aBe 0) (nv (I (aB 0 b) 4)) - sm (q_bl 0 (I (aB 0 b) 4) 1 I) B := fun _ _ => by rw [etk, e4, nv_nI (by omega), ebe, nI_sb htk, show (1 : Int32) = nI 1 from rfl]; exact nI_le (by have : tk ≠ be := fun e => c_547 (by rw [e]); omega) (by omega)
          have eq : eqA (jj_u I (A (20 + b)) 3 1) I := eqA_w (fun _ _ => rfl) gB.1
          have L1 := la_berth hv ht hb hz1 hp hff
          generalize jj_u I (A (20 + b)) 3 1 = J at L1 eq
          have eB := eq (aB 0 b) (by simp only [aB]; omega)
          have eE := eq (aBe 0) (by simp only [aBe]; omega)
          have eQ : sm (q_bl 0 (I (aB 0 b) 4) 1 J) B = sm (q_bl 0 (I (aB 0 b) 4) 1 I) B := sm_congr (fun k hk => by unfold q_bl; rw [eq (aB 0 k) (by simp only [aB]; omega)])
          refine jr_aload_n hX dL_act_567 rfl ?_
          refine jr_iload hX dL_act_568 rfl ?_
          refine jr_iload hX dL_act_570 rfl ?_
          refine jr_ret (jr_runV hX hSt kM_L_122 (c_berth_ok (jj_fl hX) hly (eqA_sf eq htc.1) hb (by rw [eB]; exact hp) (by rw [eB, eE, eQ]; exact hff)) rfl rfl (ly_kI hly) ⟨_, _, rfl, by decide⟩ dL_act_572 rfl ⟨by simp only [jj_N]; omega, by simp only [jj_N]; omega⟩ rfl) ?_
          have eF : f_berth b 1 J (aB 0 b) 4 = nI a := by unfold f_berth; rw [jj_u_nk (by decide), eB]; exact e4
          rw [eF, eB, e4, nv_nI (by omega)]
          generalize f_berth b 1 J = F at L1 eF
          obtain ⟨r0, r1, r2, r3, r4, r5, r6, r7, r8⟩ := L1.2.2.1.2.2.2.2.2.2.1 b hb
          refine jr_aload_n hX dL_act_575 rfl ?_
          refine jr_getr hX kF_L_41 rfl (sy_k0 hsy) (sy_p0_1 hsy) dL_act_576 ?_
          refine jr_aload hX dL_act_579 rfl ?_
          refine jr_geti hX kF_L_98 rfl (sy_kB hsy (by first | assumption | omega)) dL_act_581 ?_
          rw [r4, eF]
          refine jr_aald (t := 15) hX (by decide) (sy_k5 hsy) rfl (by omega) (sy_qH hsy (by omega)) dL_act_584 ?_
          refine jr_iconst (v := 0) hX dL_act_585 (by decide) ?_
          refine jr_iald hX (by first | with_reducible assumption | with_reducible exact sy_k0 hsy | with_reducible exact sy_k1 hsy | with_reducible exact sy_k2 hsy | with_reducible exact sy_k3 hsy | with_reducible exact sy_k4 hsy | with_reducible exact sy_k5 hsy | with_reducible exact sy_k6 hsy | with_reducible exact sy_k7 hsy | with_reducible exact sy_k8 hsy | with_reducible exact sy_kH hsy (by first | assumption | omega) | with_reducible exact sy_kB hsy (by first | assumption | omega) | with_reducible exact sy_kG hsy (by first | assumption | omega) | with_reducible exact sy_kD hsy (by first | assumption | omega) | with_reducible exact sy_kM hsy (by first | assumption | omega) | with_reducible exact sy_kS hsy (by first | assumption | omega) (by first | assumption | omega)) (show _ = nI 0 from rfl) (by omega) dL_act_586 ?_
          rw [(L1.2.2.1.2.2.2.2.2.1 a ha).1]
          refine jr_aload_n hX dL_act_587 rfl ?_
          refine jr_aload hX dL_act_588 rfl ?_
          refine jr_geti hX kF_L_98 rfl (sy_kB hsy (by first | assumption | omega)) dL_act_590 ?_
          rw [r4, eF]
          refine jr_iconst (v := 1) hX dL_act_593 (by decide) ?_
          refine jr_ret (jr_runV hX hSt kM_L_119 (s_inn (jj_fl hX) hsy) rfl rfl (sy_k0 hsy) ⟨_, _, rfl, by decide⟩ dL_act_594 rfl ⟨by simp only [jj_N]; omega, by simp only [jj_N]; omega⟩ rfl) ?_
          rw [s_in_eq L1.2.2.1]
          refine jr_isub hX dL_act_597 ?_
          refine jr_icmp_ne (tgt := 605) hX dL_act_598 (by decide) (fun c_598 => absurd c_598 (show ¬ ¬ _ = _ from fun q => q rfl)) (fun c_598 => ?_)
          refine jr_iconst (v := 1) hX dL_act_601 (by decide) ?_
          refine jr_goto (tgt := 606) hX dL_act_602 (by decide) ?_
          exact jr_zret hX (Or.inr rfl) dL_act_606 (Nat.ble_eq.mpr (by first | (dsimp only; omega) | (simp only [jj_N]; omega))) (Nat.ble_eq.mpr (by first | (dsimp only; omega) | (simp only [jj_N]; omega))) ⟨rfl, rfl, A, N, rfl, L1⟩
        · refine jr_iconst (v := 1) hX dL_act_550 (by decide) ?_
          exact jr_zret hX (Or.inr rfl) dL_act_551 (Nat.ble_eq.mpr (by first | (dsimp only; omega) | (simp only [jj_N]; omega))) (Nat.ble_eq.mpr (by first | (dsimp only; omega) | (simp only [jj_N]; omega))) ⟨rfl, rfl, A, N, rfl, lv_st hv (by omega) ht⟩
  · refine jr_iconst (v := 1) hX dL_act_493 (by decide) ?_
    exact jr_zret hX (Or.inr rfl) dL_act_494 (Nat.ble_eq.mpr (by first | (dsimp only; omega) | (simp only [jj_N]; omega))) (Nat.ble_eq.mpr (by first | (dsimp only; omega) | (simp only [jj_N]; omega))) ⟨rfl, rfl, A, N, rfl, lv_st hv (by omega) ht⟩
