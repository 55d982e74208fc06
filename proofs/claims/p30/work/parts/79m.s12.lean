/-! both rivers, compared -/
set_option maxHeartbeats 4000000 in
set_option maxRecDepth 100000 in
theorem s_same {l : Launch} (hfl : l.stackTraces = false) {D : jj_D} {n : Nat} {K : jj_K} {I : jj_I} {P : jj_P} {G : jj_G} {A : Nat → Nat} {H M B N t : Nat} (hv : lv A H M B N n t K I P) :
    jj_Met l D yX7_isSame (jj_ws yX7_isSame cX7_isSame 18 (some .boolean)) { frames := 9, cells := 22, slots := 204, locals := 155 } [.ref (A 0), .ref 1] n K I P G (fun r n1 K1 I1 P1 G1 => G1 = G ∧ r = some (.int 1)) jj_noX := by
  refine jj_of hfl (by decide +kernel) [some (.ref (A 0)), some (.ref 1), none, none, none, none, none, none, none, none, none, none, none, none, none, none, none, none] rfl rfl ?_
  intro X hXl hX hSt
  obtain ⟨hly, hsy, hms, htc, hdz, hH, hM, hB1, hB9, how⟩ := id hv
  have hoz := how.1
  obtain ⟨hH8, hM5, hB10, hN30⟩ := id hsy.1
  obtain ⟨s, c, ms1, ms2, ms3, ms4, hno⟩ := tc_mean htc
  refine jr_aload_n hX dX7_isSame_0 rfl ?_
  refine jr_getr hX kF_X7_14 rfl (sy_k0 hsy) (sy_p0_1 hsy) dX7_isSame_1 ?_
  refine jr_alen (t := 15) hX (by decide) (sy_k5 hsy) dX7_isSame_4 ?_
  refine jr_istore_n hX dX7_isSame_5 rfl ?_
  refine jr_iconst (v := 0) hX dX7_isSame_6 (by decide) ?_
  refine jr_istore_n hX dX7_isSame_7 rfl ?_
  refine jr_iconst (v := 0) hX dX7_isSame_8 (by decide) ?_
  refine jr_istore hX dX7_isSame_9 rfl ?_
  refine jr_iconst (v := 0) hX dX7_isSame_11 (by decide) ?_
  refine jr_istore hX dX7_isSame_12 rfl ?_
  refine jr_iconst (v := 0) hX dX7_isSame_14 (by decide) ?_
  refine jr_istore hX dX7_isSame_15 rfl ?_
  refine jr_iconst (v := 0) hX dX7_isSame_17 (by decide) ?_
  refine jr_istore hX dX7_isSame_18 rfl ?_
  have h1 : ∀ h, h ≤ H → ∀ (n1 : Nat) (K1 : jj_K) (P1 : jj_P) (J : jj_I), ly K1 P1 → sy A H M B N n1 K1 P1 → ms A H M B N I J → eqA J I → jj_J X D 18 (h) (8 * h) (jj_MQ X D { frames := 9, cells := 22, slots := 204, locals := 155 } (fun r n1 K1 I1 P1 G1 => G1 = G ∧ r = some (.int 1)) jj_noX) (n1) (K1) (J) (P1) (G) 20 [some (.ref (A 0)), some (.ref (1)), some (.int (nI H)), some (.int (0)), some (.int (0)), some (.int (0)), some (.int (sm (q_ol 0 I) (h - 1))), some (.int (nI h)), none, none, none, none, none, none, none, none, none, none] [] := by
    refine jj_for (H) _ ?_ (fun h hh ih => ?_)
    · intro n1 K1 P1 J hly hsy hmi hq
      have g0 := sy_lt hsy (t := 0) sv_0
      refine jr_widen (cs1 := 7) (sl1 := 56) (by omega) (by omega) ?_
      refine jr_iload hX dX7_isSame_20 rfl ?_
      refine jr_iload_n hX dX7_isSame_22 rfl ?_
      refine jr_icmp_ge (tgt := 334) hX dX7_isSame_23 (by decide) (fun c_23 => ?_) (fun c_23 => absurd (nI_le (Nat.le_refl _) (by omega)) c_23)
      refine jr_iconst (v := 0) hX dX7_isSame_334 (by decide) ?_
      refine jr_istore hX dX7_isSame_335 rfl ?_
      refine jr_iconst (v := 0) hX dX7_isSame_337 (by decide) ?_
      refine jr_istore hX dX7_isSame_338 rfl ?_
      have m1 : ∀ m, m ≤ M → ∀ (n1 : Nat) (K1 : jj_K) (P1 : jj_P) (J : jj_I), ly K1 P1 → sy A H M B N n1 K1 P1 → ms A H M B N I J → eqA J I → jj_J X D 18 (7 + m) (56 + 6 * m) (jj_MQ X D { frames := 9, cells := 22, slots := 204, locals := 155 } (fun r n1 K1 I1 P1 G1 => G1 = G ∧ r = some (.int 1)) jj_noX) (n1) (K1) (J) (P1) (G) 340 [some (.ref (A 0)), some (.ref (1)), some (.int (nI H)), some (.int (0)), some (.int (0)), some (.int (0)), some (.int (sm (q_ol 0 I) (H - 1))), some (.int (sm (fun m => I (aM 0 m) 0) m)), some (.int (nI m)), none, none, none, none, none, none, none, none, none] [] := by
        refine jj_for (M) _ ?_ (fun m hm ih => ?_)
        · intro n1 K1 P1 J hly hsy hmi hq
          have g0 := sy_lt hsy (t := 0) sv_0
          refine jr_widen (cs1 := 12) (sl1 := 86) (by omega) (by omega) ?_
          refine jr_iload hX dX7_isSame_340 rfl ?_
          refine jr_aload_n hX dX7_isSame_342 rfl ?_
          refine jr_getr hX kF_X7_24 rfl (sy_k0 hsy) (sy_p0_4 hsy) dX7_isSame_343 ?_
          refine jr_alen (t := 10) hX (by decide) (sy_k4 hsy) dX7_isSame_346 ?_
          refine jr_icmp_ge (tgt := 699) hX dX7_isSame_347 (by decide) (fun c_347 => ?_) (fun c_347 => absurd (nI_le (Nat.le_refl _) (by omega)) c_347)
          refine jr_iconst (v := 0) hX dX7_isSame_699 (by decide) ?_
          refine jr_istore hX dX7_isSame_700 rfl ?_
          have b1 : ∀ b, b ≤ B → ∀ (n1 : Nat) (K1 : jj_K) (P1 : jj_P) (J : jj_I), ly K1 P1 → sy A H M B N n1 K1 P1 → ms A H M B N I J → eqA J I → jj_J X D 18 (12 + b) (86 + 12 * b) (jj_MQ X D { frames := 9, cells := 22, slots := 204, locals := 155 } (fun r n1 K1 I1 P1 G1 => G1 = G ∧ r = some (.int 1)) jj_noX) (n1) (K1) (J) (P1) (G) 702 [some (.ref (A 0)), some (.ref (1)), some (.int (nI H)), some (.int (sm (q_bi 0 2 I) b)), some (.int (0)), some (.int (sm (s_hl I) b)), some (.int (sm (q_ol 0 I) (H - 1))), some (.int (sm (fun m => I (aM 0 m) 0) M)), some (.int (nI b)), none, none, none, none, none, none, none, none, none] [] := by
            refine jj_for (B) _ ?_ (fun b hb ih => ?_)
            · intro n1 K1 P1 J hly hsy hmi hq
              have g0 := sy_lt hsy (t := 0) sv_0
              refine jr_widen (cs1 := 21) (sl1 := 194) (by omega) (by omega) ?_
              refine jr_iload hX dX7_isSame_702 rfl ?_
              refine jr_aload_n hX dX7_isSame_704 rfl ?_
              refine jr_getr hX kF_X7_34 rfl (sy_k0 hsy) (sy_p0_6 hsy) dX7_isSame_705 ?_
              refine jr_alen (t := 17) hX (by decide) (sy_k6 hsy) dX7_isSame_708 ?_
              refine jr_icmp_ge (tgt := 917) hX dX7_isSame_709 (by decide) (fun c_709 => ?_) (fun c_709 => absurd (nI_le (Nat.le_refl _) (by omega)) c_709)
              refine jr_iconst (v := 0) hX dX7_isSame_917 (by decide) ?_
              refine jr_istore hX dX7_isSame_918 rfl ?_
              have d1 : ∀ d, d ≤ N → jj_J X D 18 (21) (194) (jj_MQ X D { frames := 9, cells := 22, slots := 204, locals := 155 } (fun r n1 K1 I1 P1 G1 => G1 = G ∧ r = some (.int 1)) jj_noX) (n1) (K1) (J) (P1) (G) 920 [some (.ref (A 0)), some (.ref (1)), some (.int (nI H)), some (.int (sm (q_bi 0 2 I) B)), some (.int (sm (s_op I) d)), some (.int (sm (s_hl I) B)), some (.int (sm (q_ol 0 I) (H - 1))), some (.int (sm (fun m => I (aM 0 m) 0) M)), some (.int (nI d)), none, none, none, none, none, none, none, none, none] [] := by
                refine jj_for (N) _ ?_ (fun d hd ih => ?_)
                · refine jr_iload hX dX7_isSame_920 rfl ?_
                  refine jr_aload_n hX dX7_isSame_922 rfl ?_
                  refine jr_getr hX kF_X7_38 rfl (sy_k0 hsy) (sy_p0_7 hsy) dX7_isSame_923 ?_
                  refine jr_alen (t := 15) hX (by decide) (sy_k7 hsy) dX7_isSame_926 ?_
                  refine jr_icmp_ge (tgt := 998) hX dX7_isSame_927 (by decide) (fun c_927 => ?_) (fun c_927 => absurd (nI_le (Nat.le_refl _) (by omega)) c_927)
                  rw [show sm (s_hl I) B = nI s from ms2]
                  refine jr_aload_n hX dX7_isSame_998 rfl ?_
                  refine jr_getr hX kF_X7_34 rfl (sy_k0 hsy) (sy_p0_6 hsy) dX7_isSame_999 ?_
                  refine jr_alen (t := 17) hX (by decide) (sy_k6 hsy) dX7_isSame_1002 ?_
                  refine jr_aload_n hX dX7_isSame_1003 rfl ?_
                  refine jr_ret (jr_runV hX hSt kM_X7_86 (s_sunk (jj_fl hX) hsy) rfl rfl (sy_k0 hsy) ⟨_, _, rfl, by decide⟩ dX7_isSame_1004 rfl ⟨by simp only [jj_N]; omega, by simp only [jj_N]; omega⟩ rfl) ?_
                  rw [su_e hmi]
                  refine jr_isub hX dX7_isSame_1007 ?_
                  rw [ms1]
                  refine jr_istore hX dX7_isSame_1008 rfl ?_
                  refine jr_bipush (v := 10) hX dX7_isSame_1010 (by decide) ?_
                  refine jr_newI hX kA_int (show _ = nI 10 from rfl) (by omega) dX7_isSame_1012 ⟨by dsimp only; omega, by dsimp only; omega⟩ ?_
                  have hsy0 := hsy
                  have hly : ly (jj_uK K1 n1 (10, 10)) P1 := ly_up hly (fun a ha => by unfold jj_uK; rw [if_neg (by omega)]) (fun a ha => rfl)
                  have hsy : sy A H M B N (n1 + 1) (jj_uK K1 n1 (10, 10)) P1 := sy_up hsy (by omega) (fun a ha => by unfold jj_uK; rw [if_neg (by omega)]) (fun a ha => rfl)
                  refine jr_dup hX dX7_isSame_1014 rfl ?_
                  refine jr_iconst (v := 0) hX dX7_isSame_1015 (by decide) ?_
                  refine jr_aload_n hX dX7_isSame_1016 rfl ?_
                  refine jr_geti hX kF_X7_50 rfl (sy_k0 hsy) dX7_isSame_1017 ?_
                  rw [jj_uR_ne (by omega), hmi.1]
                  refine jr_iast hX (by unfold jj_uK; rw [if_pos rfl]) (by omega) (show _ = nI 0 from rfl) (by omega) dX7_isSame_1020 ?_
                  refine jr_dup hX dX7_isSame_1021 rfl ?_
                  refine jr_iconst (v := 1) hX dX7_isSame_1022 (by decide) ?_
                  refine jr_iload_n hX dX7_isSame_1023 rfl ?_
                  refine jr_iast hX (by unfold jj_uK; rw [if_pos rfl]) (by omega) (show _ = nI 1 from rfl) (by omega) dX7_isSame_1024 ?_
                  refine jr_dup hX dX7_isSame_1025 rfl ?_
                  refine jr_iconst (v := 2) hX dX7_isSame_1026 (by decide) ?_
                  refine jr_aload_n hX dX7_isSame_1027 rfl ?_
                  refine jr_getr hX kF_X7_24 rfl (sy_k0 hsy) (sy_p0_4 hsy) dX7_isSame_1028 ?_
                  refine jr_alen (t := 10) hX (by decide) (sy_k4 hsy) dX7_isSame_1031 ?_
                  refine jr_iast hX (by unfold jj_uK; rw [if_pos rfl]) (by omega) (show _ = nI 2 from rfl) (by omega) dX7_isSame_1032 ?_
                  refine jr_dup hX dX7_isSame_1033 rfl ?_
                  refine jr_iconst (v := 3) hX dX7_isSame_1034 (by decide) ?_
                  refine jr_aload_n hX dX7_isSame_1035 rfl ?_
                  refine jr_getr hX kF_X7_34 rfl (sy_k0 hsy) (sy_p0_6 hsy) dX7_isSame_1036 ?_
                  refine jr_alen (t := 17) hX (by decide) (sy_k6 hsy) dX7_isSame_1039 ?_
                  refine jr_iast hX (by unfold jj_uK; rw [if_pos rfl]) (by omega) (show _ = nI 3 from rfl) (by omega) dX7_isSame_1040 ?_
                  refine jr_dup hX dX7_isSame_1041 rfl ?_
                  refine jr_iconst (v := 4) hX dX7_isSame_1042 (by decide) ?_
                  refine jr_aload_n hX dX7_isSame_1043 rfl ?_
                  refine jr_ret (jr_runV hX hSt kM_X7_86 (s_sunk (jj_fl hX) hsy) rfl rfl (sy_k0 hsy) ⟨_, _, rfl, by decide⟩ dX7_isSame_1044 rfl ⟨by simp only [jj_N]; omega, by simp only [jj_N]; omega⟩ rfl) ?_
                  rw [su_e (ms_f hsy0 hmi (fun a ha => by rw [jj_u_ne (by omega), jj_u_ne (by omega), jj_u_ne (by omega), jj_u_ne (by omega), jj_uR_ne (by omega)]))]
                  refine jr_iast hX (by unfold jj_uK; rw [if_pos rfl]) (by omega) (show _ = nI 4 from rfl) (by omega) dX7_isSame_1047 ?_
                  refine jr_dup hX dX7_isSame_1048 rfl ?_
                  refine jr_iconst (v := 5) hX dX7_isSame_1049 (by decide) ?_
                  refine jr_iload_n hX dX7_isSame_1050 rfl ?_
                  refine jr_iast hX (by unfold jj_uK; rw [if_pos rfl]) (by omega) (show _ = nI 5 from rfl) (by omega) dX7_isSame_1051 ?_
                  refine jr_dup hX dX7_isSame_1052 rfl ?_
                  refine jr_bipush (v := 6) hX dX7_isSame_1053 (by decide) ?_
                  refine jr_aload_n hX dX7_isSame_1055 rfl ?_
                  refine jr_getr hX kF_X7_38 rfl (sy_k0 hsy) (sy_p0_7 hsy) dX7_isSame_1056 ?_
                  refine jr_alen (t := 15) hX (by decide) (sy_k7 hsy) dX7_isSame_1059 ?_
                  refine jr_iast hX (by unfold jj_uK; rw [if_pos rfl]) (by omega) (show _ = nI 6 from rfl) (by omega) dX7_isSame_1060 ?_
                  refine jr_dup hX dX7_isSame_1061 rfl ?_
                  refine jr_bipush (v := 7) hX dX7_isSame_1062 (by decide) ?_
                  refine jr_iload hX dX7_isSame_1064 rfl ?_
                  refine jr_iast hX (by unfold jj_uK; rw [if_pos rfl]) (by omega) (show _ = nI 7 from rfl) (by omega) dX7_isSame_1066 ?_
                  refine jr_dup hX dX7_isSame_1067 rfl ?_
                  refine jr_bipush (v := 8) hX dX7_isSame_1068 (by decide) ?_
                  refine jr_iload hX dX7_isSame_1070 rfl ?_
                  refine jr_iast hX (by unfold jj_uK; rw [if_pos rfl]) (by omega) (show _ = nI 8 from rfl) (by omega) dX7_isSame_1072 ?_
                  refine jr_dup hX dX7_isSame_1073 rfl ?_
                  refine jr_bipush (v := 9) hX dX7_isSame_1074 (by decide) ?_
                  refine jr_iload hX dX7_isSame_1076 rfl ?_
                  refine jr_iast hX (by unfold jj_uK; rw [if_pos rfl]) (by omega) (show _ = nI 9 from rfl) (by omega) dX7_isSame_1078 ?_
                  refine jr_astore hX dX7_isSame_1079 rfl ?_
                  refine jr_I (I1 := s_row J n1 10 (s_cf H M B N I)) rfl ?_
                  obtain ⟨hT, hF⟩ := s_row_p (J := J) (n := n1) (f := s_cf H M B N I) (m := 10)
                  generalize s_row J n1 10 (s_cf H M B N I) = J2 at hT hF
                  have hmi2 := ms_f hsy0 hmi (fun a ha => hF a (by omega))
                  have hq2 : eqA J2 I := fun a ha => (hF a (by omega)).trans (hq a ha)
                  refine jr_iconst (v := 0) hX dX7_isSame_1081 (by decide) ?_
                  refine jr_istore hX dX7_isSame_1082 rfl ?_
                  have e1 : ∀ w, w ≤ 10 → jj_J X D 18 (22) (204) (jj_MQ X D { frames := 9, cells := 22, slots := 204, locals := 155 } (fun r n1 K1 I1 P1 G1 => G1 = G ∧ r = some (.int 1)) jj_noX) (n1 + 1) (jj_uK K1 n1 (10, 10)) (J2) (P1) (G) 1084 [some (.ref (A 0)), some (.ref (1)), some (.int (nI H)), some (.int (sm (q_bi 0 2 I) B)), some (.int (sm (s_op I) N)), some (.int (nI s)), some (.int (sm (q_ol 0 I) (H - 1))), some (.int (sm (fun m => I (aM 0 m) 0) M)), some (.int (nI c)), some (.ref (n1)), some (.int (nI w)), none, none, none, none, none, none, none] [] := by
                    refine jj_for (10) _ ?_ (fun w hw ih => ?_)
                    · refine jr_iload hX dX7_isSame_1084 rfl ?_
                      refine jr_bipush (v := 10) hX dX7_isSame_1086 (by decide) ?_
                      refine jr_icmp_ge (tgt := 1113) hX dX7_isSame_1088 (by decide) (fun c_1088 => ?_) (fun c_1088 => absurd (by decide) c_1088)
                      refine jr_aload_n hX dX7_isSame_1113 rfl ?_
                      refine jr_ret (jr_runV hX hSt kM_X7_130 (c_mean (jj_fl hX) hly (eqA_sf hq2 htc.1) (by rw [bi_e (eqT_A hq2) hB10]; exact ms1) (by rw [show sm (fun b => J2 (aB 0 b) 1) B = sm (fun b => I (aB 0 b) 1) B from sm_congr (fun b hb => by rw [hq2 (aB 0 b) (by simp only [aB]; omega)])]; exact ms2) ms3 ms4) rfl rfl (ly_kI hly) ⟨_, _, rfl, by decide⟩ dX7_isSame_1114 rfl ⟨by simp only [jj_N]; omega, by simp only [jj_N]; omega⟩ rfl) ?_
                      refine jr_iload hX dX7_isSame_1117 rfl ?_
                      refine jr_if_ne (tgt := 1126) hX dX7_isSame_1119 (by decide) (fun c_1119 => ?_) (fun c_1119 => ?_)
                      · have c0 : c ≠ 0 := fun e => c_1119 (by rw [e]; rfl)
                        rw [if_neg c0]
                        refine jr_iload hX dX7_isSame_1126 rfl ?_
                        refine jr_i2d hX dX7_isSame_1128 ?_
                        refine jr_iload hX dX7_isSame_1129 rfl ?_
                        refine jr_i2d hX dX7_isSame_1131 ?_
                        refine jr_ddiv hX dX7_isSame_1132 (jl_div ms4 ms3 c0) ?_
                        refine jr_dcmp hX dX7_isSame_1133 ?_
                        rw [i_cmp ms4 ms3 c0]
                        refine jr_if_ne (tgt := 1141) hX dX7_isSame_1134 (by decide) (fun c_1134 => absurd c_1134 (fun q => q rfl)) (fun c_1134 => ?_)
                        refine jr_iconst (v := 1) hX dX7_isSame_1137 (by decide) ?_
                        refine jr_goto (tgt := 1142) hX dX7_isSame_1138 (by decide) ?_
                        exact jr_zret hX (Or.inr rfl) dX7_isSame_1142 (Nat.ble_eq.mpr (by first | (dsimp only; omega) | (simp only [jj_N]; omega))) (Nat.ble_eq.mpr (by first | (dsimp only; omega) | (simp only [jj_N]; omega))) ⟨rfl, rfl⟩
                      · have c0 : c = 0 := (nI_z (by omega)).mp c_1119
                        rw [if_pos c0]
                        refine jr_dconst0 hX dX7_isSame_1122 ?_
                        refine jr_goto (tgt := 1133) hX dX7_isSame_1123 (by decide) ?_
                        refine jr_dcmp hX dX7_isSame_1133 ?_
                        rw [i_cmp0]
                        refine jr_if_ne (tgt := 1141) hX dX7_isSame_1134 (by decide) (fun c_1134 => absurd c_1134 (fun q => q rfl)) (fun c_1134 => ?_)
                        refine jr_iconst (v := 1) hX dX7_isSame_1137 (by decide) ?_
                        refine jr_goto (tgt := 1142) hX dX7_isSame_1138 (by decide) ?_
                        exact jr_zret hX (Or.inr rfl) dX7_isSame_1142 (Nat.ble_eq.mpr (by first | (dsimp only; omega) | (simp only [jj_N]; omega))) (Nat.ble_eq.mpr (by first | (dsimp only; omega) | (simp only [jj_N]; omega))) ⟨rfl, rfl⟩
                    · refine jr_iload hX dX7_isSame_1084 rfl ?_
                      refine jr_bipush (v := 10) hX dX7_isSame_1086 (by decide) ?_
                      refine jr_icmp_ge (tgt := 1113) hX dX7_isSame_1088 (by decide) (fun c_1088 => absurd c_1088 (show ¬ nI 10 ≤ nI w from nI_ge (by assumption) (by omega))) (fun c_1088 => ?_)
                      refine jr_aload_n hX dX7_isSame_1091 rfl ?_
                      refine jr_iload hX dX7_isSame_1092 rfl ?_
                      refine jr_ret (jr_runV hX hSt kM_X7_127 (c_count_ok (jj_fl hX) hly (eqA_sf hq2 htc.1) (by assumption)) rfl rfl (ly_kI hly) ⟨_, _, rfl, by decide⟩ dX7_isSame_1094 rfl ⟨by simp only [jj_N]; omega, by simp only [jj_N]; omega⟩ rfl) ?_
                      rw [cf_e (eqT_A hq2) hM5 hB10 hN30, s_cf_e htc]
                      refine jr_aload hX dX7_isSame_1097 rfl ?_
                      refine jr_iload hX dX7_isSame_1099 rfl ?_
                      refine jr_iald hX (by unfold jj_uK; rw [if_pos rfl]) (by first | with_reducible rfl | with_reducible assumption | rfl) (by omega) dX7_isSame_1101 ?_
                      rw [hT w (by assumption)]
                      refine jr_icmp_eq (tgt := 1107) hX dX7_isSame_1102 (by decide) (fun c_1102 => ?_) (fun c_1102 => absurd rfl c_1102)
                      refine jr_iinc hX dX7_isSame_1107 rfl (by first | with_reducible exact jj_inc _ | with_reducible exact jj_inc1 _) rfl ?_
                      refine jr_goto (tgt := 1084) hX dX7_isSame_1110 (by decide) ?_
                      exact jr_forget (fun _ _ h => h) (fun i v h => by rcases i with _ | _ | _ | _ | _ | _ | _ | _ | _ | _ | _ | _ | _ | _ | _ | _ | _ | _ | i <;> first | exact h | exact absurd h (by simp)) (ih)
                  exact e1 0 (Nat.zero_le _)
                · refine jr_iload hX dX7_isSame_920 rfl ?_
                  refine jr_aload_n hX dX7_isSame_922 rfl ?_
                  refine jr_getr hX kF_X7_38 rfl (sy_k0 hsy) (sy_p0_7 hsy) dX7_isSame_923 ?_
                  refine jr_alen (t := 15) hX (by decide) (sy_k7 hsy) dX7_isSame_926 ?_
                  refine jr_icmp_ge (tgt := 998) hX dX7_isSame_927 (by decide) (fun c_927 => absurd c_927 (nI_ge (by assumption) (by omega))) (fun c_927 => ?_)
                  refine jr_iconst (v := 0) hX dX7_isSame_930 (by decide) ?_
                  refine jr_istore hX dX7_isSame_931 rfl ?_
                  have ed := hmi.2.2.2.2.2.2.2.1 d (by assumption)
                  have d2 : ∀ f, f ≤ 7 → jj_J X D 18 (21) (194) (jj_MQ X D { frames := 9, cells := 22, slots := 204, locals := 155 } (fun r n1 K1 I1 P1 G1 => G1 = G ∧ r = some (.int 1)) jj_noX) (n1) (K1) (J) (P1) (G) 933 [some (.ref (A 0)), some (.ref (1)), some (.int (nI H)), some (.int (sm (q_bi 0 2 I) B)), some (.int (sm (s_op I) d)), some (.int (sm (s_hl I) B)), some (.int (sm (q_ol 0 I) (H - 1))), some (.int (sm (fun m => I (aM 0 m) 0) M)), some (.int (nI d)), some (.int (nI f)), none, none, none, none, none, none, none, none] [] := by
                    refine jj_for (7) _ ?_ (fun f hf ih => ?_)
                    · refine jr_iload hX dX7_isSame_933 rfl ?_
                      refine jr_bipush (v := 7) hX dX7_isSame_935 (by decide) ?_
                      refine jr_icmp_ge (tgt := 969) hX dX7_isSame_937 (by decide) (fun c_937 => ?_) (fun c_937 => absurd (by decide) c_937)
                      refine jr_iload hX dX7_isSame_969 rfl ?_
                      refine jr_aload_n hX dX7_isSame_971 rfl ?_
                      refine jr_getr hX kF_X7_38 rfl (sy_k0 hsy) (sy_p0_7 hsy) dX7_isSame_972 ?_
                      refine jr_iload hX dX7_isSame_975 rfl ?_
                      refine jr_aald (t := 15) hX (by decide) (sy_k7 hsy) rfl (by omega) (sy_qD hsy (by omega)) dX7_isSame_977 ?_
                      refine jr_bipush (v := 6) hX dX7_isSame_978 (by decide) ?_
                      refine jr_iald hX (by first | with_reducible assumption | with_reducible exact sy_k0 hsy | with_reducible exact sy_k1 hsy | with_reducible exact sy_k2 hsy | with_reducible exact sy_k3 hsy | with_reducible exact sy_k4 hsy | with_reducible exact sy_k5 hsy | with_reducible exact sy_k6 hsy | with_reducible exact sy_k7 hsy | with_reducible exact sy_k8 hsy | with_reducible exact sy_kH hsy (by first | assumption | omega) | with_reducible exact sy_kB hsy (by first | assumption | omega) | with_reducible exact sy_kG hsy (by first | assumption | omega) | with_reducible exact sy_kD hsy (by first | assumption | omega) | with_reducible exact sy_kM hsy (by first | assumption | omega) | with_reducible exact sy_kS hsy (by first | assumption | omega) (by first | assumption | omega)) (show _ = nI 6 from rfl) (by omega) dX7_isSame_980 ?_
                      rw [ed 6 (by decide)]
                      refine jr_if_ne (tgt := 988) hX dX7_isSame_981 (by decide) (fun c_981 => ?_) (fun c_981 => ?_)
                      · refine jr_iconst (v := 0) hX dX7_isSame_988 (by decide) ?_
                        refine jr_iadd hX dX7_isSame_989 ?_
                        refine jr_istore hX dX7_isSame_990 rfl ?_
                        refine jr_iinc hX dX7_isSame_992 rfl (by first | with_reducible exact jj_inc _ | with_reducible exact jj_inc1 _) rfl ?_
                        refine jr_goto (tgt := 920) hX dX7_isSame_995 (by decide) ?_
                        rw [sm_1 (show s_op I d = 0 from if_neg c_981)] at ih
                        exact jr_forget (fun _ _ h => h) (fun i v h => by rcases i with _ | _ | _ | _ | _ | _ | _ | _ | _ | _ | _ | _ | _ | _ | _ | _ | _ | _ | i <;> first | exact h | exact absurd h (by simp)) (ih)
                      · refine jr_iconst (v := 1) hX dX7_isSame_984 (by decide) ?_
                        refine jr_goto (tgt := 989) hX dX7_isSame_985 (by decide) ?_
                        refine jr_iadd hX dX7_isSame_989 ?_
                        refine jr_istore hX dX7_isSame_990 rfl ?_
                        refine jr_iinc hX dX7_isSame_992 rfl (by first | with_reducible exact jj_inc _ | with_reducible exact jj_inc1 _) rfl ?_
                        refine jr_goto (tgt := 920) hX dX7_isSame_995 (by decide) ?_
                        rw [sm_1 (show s_op I d = 1 from if_pos c_981)] at ih
                        exact jr_forget (fun _ _ h => h) (fun i v h => by rcases i with _ | _ | _ | _ | _ | _ | _ | _ | _ | _ | _ | _ | _ | _ | _ | _ | _ | _ | i <;> first | exact h | exact absurd h (by simp)) (ih)
                    · refine jr_iload hX dX7_isSame_933 rfl ?_
                      refine jr_bipush (v := 7) hX dX7_isSame_935 (by decide) ?_
                      refine jr_icmp_ge (tgt := 969) hX dX7_isSame_937 (by decide) (fun c_937 => absurd c_937 (show ¬ nI 7 ≤ nI f from nI_ge (by assumption) (by omega))) (fun c_937 => ?_)
                      refine jr_aload_n hX dX7_isSame_940 rfl ?_
                      refine jr_iload hX dX7_isSame_941 rfl ?_
                      refine jr_iload hX dX7_isSame_943 rfl ?_
                      refine jr_ret (jr_runV hX hSt kM_X7_124 (c_debt_ok (jj_fl hX) hly (eqA_sf hq htc.1) (by assumption) (by assumption)) rfl rfl (ly_kI hly) ⟨_, _, rfl, by decide⟩ dX7_isSame_945 rfl ⟨by simp only [jj_N]; omega, by simp only [jj_N]; omega⟩ rfl) ?_
                      rw [hq (aD 0 d) (by simp only [aD]; omega)]
                      refine jr_aload_n hX dX7_isSame_948 rfl ?_
                      refine jr_getr hX kF_X7_38 rfl (sy_k0 hsy) (sy_p0_7 hsy) dX7_isSame_949 ?_
                      refine jr_iload hX dX7_isSame_952 rfl ?_
                      refine jr_aald (t := 15) hX (by decide) (sy_k7 hsy) rfl (by omega) (sy_qD hsy (by omega)) dX7_isSame_954 ?_
                      refine jr_iload hX dX7_isSame_955 rfl ?_
                      refine jr_iald hX (by first | with_reducible assumption | with_reducible exact sy_k0 hsy | with_reducible exact sy_k1 hsy | with_reducible exact sy_k2 hsy | with_reducible exact sy_k3 hsy | with_reducible exact sy_k4 hsy | with_reducible exact sy_k5 hsy | with_reducible exact sy_k6 hsy | with_reducible exact sy_k7 hsy | with_reducible exact sy_k8 hsy | with_reducible exact sy_kH hsy (by first | assumption | omega) | with_reducible exact sy_kB hsy (by first | assumption | omega) | with_reducible exact sy_kG hsy (by first | assumption | omega) | with_reducible exact sy_kD hsy (by first | assumption | omega) | with_reducible exact sy_kM hsy (by first | assumption | omega) | with_reducible exact sy_kS hsy (by first | assumption | omega) (by first | assumption | omega)) rfl (by omega) dX7_isSame_957 ?_
                      rw [ed f (by assumption)]
                      refine jr_icmp_eq (tgt := 963) hX dX7_isSame_958 (by decide) (fun c_958 => ?_) (fun c_958 => absurd rfl c_958)
                      refine jr_iinc hX dX7_isSame_963 rfl (by first | with_reducible exact jj_inc _ | with_reducible exact jj_inc1 _) rfl ?_
                      refine jr_goto (tgt := 933) hX dX7_isSame_966 (by decide) ?_
                      exact jr_forget (fun _ _ h => h) (fun i v h => by rcases i with _ | _ | _ | _ | _ | _ | _ | _ | _ | _ | _ | _ | _ | _ | _ | _ | _ | _ | i <;> first | exact h | exact absurd h (by simp)) (ih)
                  exact d2 0 (Nat.zero_le _)
              exact d1 0 (Nat.zero_le _)
            · intro n1 K1 P1 J hly hsy hmi hq
              have g0 := sy_lt hsy (t := 0) sv_0
              refine jr_iload hX dX7_isSame_702 rfl ?_
              refine jr_aload_n hX dX7_isSame_704 rfl ?_
              refine jr_getr hX kF_X7_34 rfl (sy_k0 hsy) (sy_p0_6 hsy) dX7_isSame_705 ?_
              refine jr_alen (t := 17) hX (by decide) (sy_k6 hsy) dX7_isSame_708 ?_
              refine jr_icmp_ge (tgt := 917) hX dX7_isSame_709 (by decide) (fun c_709 => absurd c_709 (nI_ge (by assumption) (by omega))) (fun c_709 => ?_)
              refine jr_aload_n hX dX7_isSame_712 rfl ?_
              refine jr_getr hX kF_X7_34 rfl (sy_k0 hsy) (sy_p0_6 hsy) dX7_isSame_713 ?_
              refine jr_iload hX dX7_isSame_716 rfl ?_
              refine jr_aald (t := 17) hX (by decide) (sy_k6 hsy) rfl (by omega) (sy_qB hsy (by omega)) dX7_isSame_718 ?_
              refine jr_astore hX dX7_isSame_719 rfl ?_
              refine jr_bipush (v := 12) hX dX7_isSame_721 (by decide) ?_
              refine jr_newI hX kA_int (show _ = nI 12 from rfl) (by omega) dX7_isSame_723 ⟨by dsimp only; omega, by dsimp only; omega⟩ ?_
              have hsy0 := hsy
              have hly : ly (jj_uK K1 n1 (10, 12)) P1 := ly_up hly (fun a ha => by unfold jj_uK; rw [if_neg (by omega)]) (fun a ha => rfl)
              have hsy : sy A H M B N (n1 + 1) (jj_uK K1 n1 (10, 12)) P1 := sy_up hsy (by omega) (fun a ha => by unfold jj_uK; rw [if_neg (by omega)]) (fun a ha => rfl)
              have gB := (sy_lt hsy0 (t := 20 + b) (sv_B hsy0.1 (by assumption))).2
              have gG := (sy_lt hsy0 (t := 40 + b) (sv_G hsy0.1 (by assumption))).2
              have fb := hmi.2.2.2.2.2.2.1 b (by assumption)
              refine jr_dup hX dX7_isSame_725 rfl ?_
              refine jr_iconst (v := 0) hX dX7_isSame_726 (by decide) ?_
              refine jr_aload hX dX7_isSame_727 rfl ?_
              refine jr_geti hX kF_X7_55 rfl (sy_kB hsy (by first | assumption | omega)) dX7_isSame_729 ?_
              rw [jj_uR_ne (by omega), fb.1]
              refine jr_iast hX (by unfold jj_uK; rw [if_pos rfl]) (by omega) (show _ = nI 0 from rfl) (by omega) dX7_isSame_732 ?_
              refine jr_dup hX dX7_isSame_733 rfl ?_
              refine jr_iconst (v := 1) hX dX7_isSame_734 (by decide) ?_
              refine jr_aload hX dX7_isSame_735 rfl ?_
              refine jr_geti hX kF_X7_80 rfl (sy_kB hsy (by first | assumption | omega)) dX7_isSame_737 ?_
              rw [jj_u_ne (by omega), jj_uR_ne (by omega), fb.2.1]
              refine jr_iast hX (by unfold jj_uK; rw [if_pos rfl]) (by omega) (show _ = nI 1 from rfl) (by omega) dX7_isSame_740 ?_
              refine jr_dup hX dX7_isSame_741 rfl ?_
              refine jr_iconst (v := 2) hX dX7_isSame_742 (by decide) ?_
              refine jr_aload hX dX7_isSame_743 rfl ?_
              refine jr_geti hX kF_X7_58 rfl (sy_kB hsy (by first | assumption | omega)) dX7_isSame_745 ?_
              rw [jj_u_ne (by omega), jj_u_ne (by omega), jj_uR_ne (by omega), fb.2.2.1]
              refine jr_iast hX (by unfold jj_uK; rw [if_pos rfl]) (by omega) (show _ = nI 2 from rfl) (by omega) dX7_isSame_748 ?_
              refine jr_dup hX dX7_isSame_749 rfl ?_
              refine jr_iconst (v := 3) hX dX7_isSame_750 (by decide) ?_
              refine jr_aload hX dX7_isSame_751 rfl ?_
              refine jr_geti hX kF_X7_67 rfl (sy_kB hsy (by first | assumption | omega)) dX7_isSame_753 ?_
              rw [jj_u_ne (by omega), jj_u_ne (by omega), jj_u_ne (by omega), jj_uR_ne (by omega), fb.2.2.2.1]
              refine jr_iast hX (by unfold jj_uK; rw [if_pos rfl]) (by omega) (show _ = nI 3 from rfl) (by omega) dX7_isSame_756 ?_
              refine jr_dup hX dX7_isSame_757 rfl ?_
              refine jr_iconst (v := 4) hX dX7_isSame_758 (by decide) ?_
              refine jr_aload hX dX7_isSame_759 rfl ?_
              refine jr_geti hX kF_X7_61 rfl (sy_kB hsy (by first | assumption | omega)) dX7_isSame_761 ?_
              rw [jj_u_ne (by omega), jj_u_ne (by omega), jj_u_ne (by omega), jj_u_ne (by omega), jj_uR_ne (by omega), fb.2.2.2.2.1]
              refine jr_iast hX (by unfold jj_uK; rw [if_pos rfl]) (by omega) (show _ = nI 4 from rfl) (by omega) dX7_isSame_764 ?_
              refine jr_dup hX dX7_isSame_765 rfl ?_
              refine jr_iconst (v := 5) hX dX7_isSame_766 (by decide) ?_
              refine jr_aload hX dX7_isSame_767 rfl ?_
              refine jr_geti hX kF_X7_64 rfl (sy_kB hsy (by first | assumption | omega)) dX7_isSame_769 ?_
              rw [jj_u_ne (by omega), jj_u_ne (by omega), jj_u_ne (by omega), jj_u_ne (by omega), jj_u_ne (by omega), jj_uR_ne (by omega), fb.2.2.2.2.2.1]
              refine jr_iast hX (by unfold jj_uK; rw [if_pos rfl]) (by omega) (show _ = nI 5 from rfl) (by omega) dX7_isSame_772 ?_
              refine jr_dup hX dX7_isSame_773 rfl ?_
              refine jr_bipush (v := 6) hX dX7_isSame_774 (by decide) ?_
              refine jr_aload hX dX7_isSame_776 rfl ?_
              refine jr_geti hX kF_X7_73 rfl (sy_kB hsy (by first | assumption | omega)) dX7_isSame_778 ?_
              rw [jj_u_ne (by omega), jj_u_ne (by omega), jj_u_ne (by omega), jj_u_ne (by omega), jj_u_ne (by omega), jj_u_ne (by omega), jj_uR_ne (by omega), fb.2.2.2.2.2.2.1]
              refine jr_iast hX (by unfold jj_uK; rw [if_pos rfl]) (by omega) (show _ = nI 6 from rfl) (by omega) dX7_isSame_781 ?_
              refine jr_dup hX dX7_isSame_782 rfl ?_
              refine jr_bipush (v := 7) hX dX7_isSame_783 (by decide) ?_
              refine jr_aload hX dX7_isSame_785 rfl ?_
              refine jr_ret (jr_runV hX hSt kM_X7_112 (s_all (jj_fl hX) hsy (by assumption)) rfl rfl (sy_kB hsy (by first | assumption | omega)) ⟨_, _, rfl, by decide⟩ dX7_isSame_787 rfl ⟨by simp only [jj_N]; omega, by simp only [jj_N]; omega⟩ rfl) ?_
              rw [s_al_eq (ms_f hsy0 hmi (fun a ha => by rw [jj_u_ne (by omega), jj_u_ne (by omega), jj_u_ne (by omega), jj_u_ne (by omega), jj_u_ne (by omega), jj_u_ne (by omega), jj_u_ne (by omega), jj_uR_ne (by omega)])) (by assumption)]
              refine jr_iast hX (by unfold jj_uK; rw [if_pos rfl]) (by omega) (show _ = nI 7 from rfl) (by omega) dX7_isSame_790 ?_
              refine jr_dup hX dX7_isSame_791 rfl ?_
              refine jr_bipush (v := 8) hX dX7_isSame_792 (by decide) ?_
              refine jr_aload hX dX7_isSame_794 rfl ?_
              refine jr_getr hX kF_X7_83 rfl (sy_kB hsy (by first | assumption | omega)) (sy_qG hsy (by first | assumption | omega)) dX7_isSame_796 ?_
              refine jr_iconst (v := 0) hX dX7_isSame_799 (by decide) ?_
              refine jr_iald hX (by first | with_reducible assumption | with_reducible exact sy_k0 hsy | with_reducible exact sy_k1 hsy | with_reducible exact sy_k2 hsy | with_reducible exact sy_k3 hsy | with_reducible exact sy_k4 hsy | with_reducible exact sy_k5 hsy | with_reducible exact sy_k6 hsy | with_reducible exact sy_k7 hsy | with_reducible exact sy_k8 hsy | with_reducible exact sy_kH hsy (by first | assumption | omega) | with_reducible exact sy_kB hsy (by first | assumption | omega) | with_reducible exact sy_kG hsy (by first | assumption | omega) | with_reducible exact sy_kD hsy (by first | assumption | omega) | with_reducible exact sy_kM hsy (by first | assumption | omega) | with_reducible exact sy_kS hsy (by first | assumption | omega) (by first | assumption | omega)) (show _ = nI 0 from rfl) (by omega) dX7_isSame_800 ?_
              rw [jj_u_ne (by omega), jj_u_ne (by omega), jj_u_ne (by omega), jj_u_ne (by omega), jj_u_ne (by omega), jj_u_ne (by omega), jj_u_ne (by omega), jj_u_ne (by omega), jj_uR_ne (by omega), fb.2.2.2.2.2.2.2.2 0 (by decide)]
              refine jr_iast hX (by unfold jj_uK; rw [if_pos rfl]) (by omega) (show _ = nI 8 from rfl) (by omega) dX7_isSame_801 ?_
              refine jr_dup hX dX7_isSame_802 rfl ?_
              refine jr_bipush (v := 9) hX dX7_isSame_803 (by decide) ?_
              refine jr_aload hX dX7_isSame_805 rfl ?_
              refine jr_getr hX kF_X7_83 rfl (sy_kB hsy (by first | assumption | omega)) (sy_qG hsy (by first | assumption | omega)) dX7_isSame_807 ?_
              refine jr_iconst (v := 1) hX dX7_isSame_810 (by decide) ?_
              refine jr_iald hX (by first | with_reducible assumption | with_reducible exact sy_k0 hsy | with_reducible exact sy_k1 hsy | with_reducible exact sy_k2 hsy | with_reducible exact sy_k3 hsy | with_reducible exact sy_k4 hsy | with_reducible exact sy_k5 hsy | with_reducible exact sy_k6 hsy | with_reducible exact sy_k7 hsy | with_reducible exact sy_k8 hsy | with_reducible exact sy_kH hsy (by first | assumption | omega) | with_reducible exact sy_kB hsy (by first | assumption | omega) | with_reducible exact sy_kG hsy (by first | assumption | omega) | with_reducible exact sy_kD hsy (by first | assumption | omega) | with_reducible exact sy_kM hsy (by first | assumption | omega) | with_reducible exact sy_kS hsy (by first | assumption | omega) (by first | assumption | omega)) (show _ = nI 1 from rfl) (by omega) dX7_isSame_811 ?_
              rw [jj_u_ne (by omega), jj_u_ne (by omega), jj_u_ne (by omega), jj_u_ne (by omega), jj_u_ne (by omega), jj_u_ne (by omega), jj_u_ne (by omega), jj_u_ne (by omega), jj_u_ne (by omega), jj_uR_ne (by omega), fb.2.2.2.2.2.2.2.2 1 (by decide)]
              refine jr_iast hX (by unfold jj_uK; rw [if_pos rfl]) (by omega) (show _ = nI 9 from rfl) (by omega) dX7_isSame_812 ?_
              refine jr_dup hX dX7_isSame_813 rfl ?_
              refine jr_bipush (v := 10) hX dX7_isSame_814 (by decide) ?_
              refine jr_aload hX dX7_isSame_816 rfl ?_
              refine jr_getr hX kF_X7_83 rfl (sy_kB hsy (by first | assumption | omega)) (sy_qG hsy (by first | assumption | omega)) dX7_isSame_818 ?_
              refine jr_iconst (v := 2) hX dX7_isSame_821 (by decide) ?_
              refine jr_iald hX (by first | with_reducible assumption | with_reducible exact sy_k0 hsy | with_reducible exact sy_k1 hsy | with_reducible exact sy_k2 hsy | with_reducible exact sy_k3 hsy | with_reducible exact sy_k4 hsy | with_reducible exact sy_k5 hsy | with_reducible exact sy_k6 hsy | with_reducible exact sy_k7 hsy | with_reducible exact sy_k8 hsy | with_reducible exact sy_kH hsy (by first | assumption | omega) | with_reducible exact sy_kB hsy (by first | assumption | omega) | with_reducible exact sy_kG hsy (by first | assumption | omega) | with_reducible exact sy_kD hsy (by first | assumption | omega) | with_reducible exact sy_kM hsy (by first | assumption | omega) | with_reducible exact sy_kS hsy (by first | assumption | omega) (by first | assumption | omega)) (show _ = nI 2 from rfl) (by omega) dX7_isSame_822 ?_
              rw [jj_u_ne (by omega), jj_u_ne (by omega), jj_u_ne (by omega), jj_u_ne (by omega), jj_u_ne (by omega), jj_u_ne (by omega), jj_u_ne (by omega), jj_u_ne (by omega), jj_u_ne (by omega), jj_u_ne (by omega), jj_uR_ne (by omega), fb.2.2.2.2.2.2.2.2 2 (by decide)]
              refine jr_iast hX (by unfold jj_uK; rw [if_pos rfl]) (by omega) (show _ = nI 10 from rfl) (by omega) dX7_isSame_823 ?_
              refine jr_dup hX dX7_isSame_824 rfl ?_
              refine jr_bipush (v := 11) hX dX7_isSame_825 (by decide) ?_
              refine jr_aload hX dX7_isSame_827 rfl ?_
              refine jr_getr hX kF_X7_83 rfl (sy_kB hsy (by first | assumption | omega)) (sy_qG hsy (by first | assumption | omega)) dX7_isSame_829 ?_
              refine jr_iconst (v := 3) hX dX7_isSame_832 (by decide) ?_
              refine jr_iald hX (by first | with_reducible assumption | with_reducible exact sy_k0 hsy | with_reducible exact sy_k1 hsy | with_reducible exact sy_k2 hsy | with_reducible exact sy_k3 hsy | with_reducible exact sy_k4 hsy | with_reducible exact sy_k5 hsy | with_reducible exact sy_k6 hsy | with_reducible exact sy_k7 hsy | with_reducible exact sy_k8 hsy | with_reducible exact sy_kH hsy (by first | assumption | omega) | with_reducible exact sy_kB hsy (by first | assumption | omega) | with_reducible exact sy_kG hsy (by first | assumption | omega) | with_reducible exact sy_kD hsy (by first | assumption | omega) | with_reducible exact sy_kM hsy (by first | assumption | omega) | with_reducible exact sy_kS hsy (by first | assumption | omega) (by first | assumption | omega)) (show _ = nI 3 from rfl) (by omega) dX7_isSame_833 ?_
              rw [jj_u_ne (by omega), jj_u_ne (by omega), jj_u_ne (by omega), jj_u_ne (by omega), jj_u_ne (by omega), jj_u_ne (by omega), jj_u_ne (by omega), jj_u_ne (by omega), jj_u_ne (by omega), jj_u_ne (by omega), jj_u_ne (by omega), jj_uR_ne (by omega), fb.2.2.2.2.2.2.2.2 3 (by decide)]
              refine jr_iast hX (by unfold jj_uK; rw [if_pos rfl]) (by omega) (show _ = nI 11 from rfl) (by omega) dX7_isSame_834 ?_
              refine jr_astore hX dX7_isSame_835 rfl ?_
              refine jr_I (I1 := s_row J n1 12 (q_bf b I)) rfl ?_
              obtain ⟨hT, hF⟩ := s_row_p (J := J) (n := n1) (f := q_bf b I) (m := 12)
              generalize s_row J n1 12 (q_bf b I) = J2 at hT hF
              have hmi2 := ms_f hsy0 hmi (fun a ha => hF a (by omega))
              have hq2 : eqA J2 I := fun a ha => (hF a (by omega)).trans (hq a ha)
              refine jr_iconst (v := 0) hX dX7_isSame_837 (by decide) ?_
              refine jr_istore hX dX7_isSame_838 rfl ?_
              have b2 : ∀ w, w ≤ 12 → jj_J X D 18 (12 + b + 1) (86 + 12 * b + 12) (jj_MQ X D { frames := 9, cells := 22, slots := 204, locals := 155 } (fun r n1 K1 I1 P1 G1 => G1 = G ∧ r = some (.int 1)) jj_noX) (n1 + 1) (jj_uK K1 n1 (10, 12)) (J2) (P1) (G) 840 [some (.ref (A 0)), some (.ref (1)), some (.int (nI H)), some (.int (sm (q_bi 0 2 I) b)), some (.int (0)), some (.int (sm (s_hl I) b)), some (.int (sm (q_ol 0 I) (H - 1))), some (.int (sm (fun m => I (aM 0 m) 0) M)), some (.int (nI b)), some (.ref (A (20 + b))), some (.ref (n1)), some (.int (nI w)), none, none, none, none, none, none] [] := by
                refine jj_for (12) _ ?_ (fun w hw ih => ?_)
                · refine jr_iload hX dX7_isSame_840 rfl ?_
                  refine jr_bipush (v := 12) hX dX7_isSame_842 (by decide) ?_
                  refine jr_icmp_ge (tgt := 871) hX dX7_isSame_844 (by decide) (fun c_844 => ?_) (fun c_844 => absurd (by decide) c_844)
                  obtain ⟨r0, r1, r2, r3, r4, r5, r6, r7, r8⟩ := hmi2.2.2.2.2.2.2.1 b (by assumption)
                  refine jr_iload_n hX dX7_isSame_871 rfl ?_
                  refine jr_aload hX dX7_isSame_872 rfl ?_
                  refine jr_geti hX kF_X7_67 rfl (sy_kB hsy (by first | assumption | omega)) dX7_isSame_874 ?_
                  rw [r3]
                  refine jr_iconst (v := 2) hX dX7_isSame_877 (by decide) ?_
                  refine jr_icmp_ne (tgt := 885) hX dX7_isSame_878 (by decide) (fun c_878 => ?_) (fun c_878 => ?_)
                  · refine jr_iconst (v := 0) hX dX7_isSame_885 (by decide) ?_
                    refine jr_iadd hX dX7_isSame_886 ?_
                    refine jr_istore_n hX dX7_isSame_887 rfl ?_
                    refine jr_iload hX dX7_isSame_888 rfl ?_
                    refine jr_aload hX dX7_isSame_890 rfl ?_
                    refine jr_geti hX kF_X7_67 rfl (sy_kB hsy (by first | assumption | omega)) dX7_isSame_892 ?_
                    rw [r3]
                    refine jr_iconst (v := 3) hX dX7_isSame_895 (by decide) ?_
                    refine jr_icmp_ge (tgt := 907) hX dX7_isSame_896 (by decide) (fun c_896 => ?_) (fun c_896 => ?_)
                    · refine jr_iconst (v := 0) hX dX7_isSame_907 (by decide) ?_
                      refine jr_iadd hX dX7_isSame_908 ?_
                      refine jr_istore hX dX7_isSame_909 rfl ?_
                      refine jr_iinc hX dX7_isSame_911 rfl (by first | with_reducible exact jj_inc _ | with_reducible exact jj_inc1 _) rfl ?_
                      refine jr_goto (tgt := 702) hX dX7_isSame_914 (by decide) ?_
                      rw [sm_1 (show q_bi 0 2 I b = 0 from if_neg c_878), sm_1 (show s_hl I b = 0 from hno b (by assumption) (i_st3 (htc.1.2.2.2.2.1 b (by assumption)).2.1 c_896))] at ih
                      exact jr_forget (fun _ _ h => h) (fun i v h => by rcases i with _ | _ | _ | _ | _ | _ | _ | _ | _ | _ | _ | _ | _ | _ | _ | _ | _ | _ | i <;> first | exact h | exact absurd h (by simp)) (ih _ _ _ _ hly hsy hmi2 hq2)
                    · refine jr_aload hX dX7_isSame_899 rfl ?_
                      refine jr_geti hX kF_X7_80 rfl (sy_kB hsy (by first | assumption | omega)) dX7_isSame_901 ?_
                      rw [r1]
                      refine jr_goto (tgt := 908) hX dX7_isSame_904 (by decide) ?_
                      refine jr_iadd hX dX7_isSame_908 ?_
                      refine jr_istore hX dX7_isSame_909 rfl ?_
                      refine jr_iinc hX dX7_isSame_911 rfl (by first | with_reducible exact jj_inc _ | with_reducible exact jj_inc1 _) rfl ?_
                      refine jr_goto (tgt := 702) hX dX7_isSame_914 (by decide) ?_
                      rw [sm_1 (show q_bi 0 2 I b = 0 from if_neg c_878), sm_1 (show s_hl I b = I (aB 0 b) 1 from rfl)] at ih
                      exact jr_forget (fun _ _ h => h) (fun i v h => by rcases i with _ | _ | _ | _ | _ | _ | _ | _ | _ | _ | _ | _ | _ | _ | _ | _ | _ | _ | i <;> first | exact h | exact absurd h (by simp)) (ih _ _ _ _ hly hsy hmi2 hq2)
                  · refine jr_iconst (v := 1) hX dX7_isSame_881 (by decide) ?_
                    refine jr_goto (tgt := 886) hX dX7_isSame_882 (by decide) ?_
                    refine jr_iadd hX dX7_isSame_886 ?_
                    refine jr_istore_n hX dX7_isSame_887 rfl ?_
                    refine jr_iload hX dX7_isSame_888 rfl ?_
                    refine jr_aload hX dX7_isSame_890 rfl ?_
                    refine jr_geti hX kF_X7_67 rfl (sy_kB hsy (by first | assumption | omega)) dX7_isSame_892 ?_
                    rw [r3]
                    refine jr_iconst (v := 3) hX dX7_isSame_895 (by decide) ?_
                    refine jr_icmp_ge (tgt := 907) hX dX7_isSame_896 (by decide) (fun c_896 => absurd c_896 (by rw [c_878]; decide)) (fun c_896 => ?_)
                    refine jr_aload hX dX7_isSame_899 rfl ?_
                    refine jr_geti hX kF_X7_80 rfl (sy_kB hsy (by first | assumption | omega)) dX7_isSame_901 ?_
                    rw [r1]
                    refine jr_goto (tgt := 908) hX dX7_isSame_904 (by decide) ?_
                    refine jr_iadd hX dX7_isSame_908 ?_
                    refine jr_istore hX dX7_isSame_909 rfl ?_
                    refine jr_iinc hX dX7_isSame_911 rfl (by first | with_reducible exact jj_inc _ | with_reducible exact jj_inc1 _) rfl ?_
                    refine jr_goto (tgt := 702) hX dX7_isSame_914 (by decide) ?_
                    rw [sm_1 (show q_bi 0 2 I b = 1 from if_pos c_878), sm_1 (show s_hl I b = I (aB 0 b) 1 from rfl)] at ih
                    exact jr_forget (fun _ _ h => h) (fun i v h => by rcases i with _ | _ | _ | _ | _ | _ | _ | _ | _ | _ | _ | _ | _ | _ | _ | _ | _ | _ | i <;> first | exact h | exact absurd h (by simp)) (ih _ _ _ _ hly hsy hmi2 hq2)
                · refine jr_iload hX dX7_isSame_840 rfl ?_
                  refine jr_bipush (v := 12) hX dX7_isSame_842 (by decide) ?_
                  refine jr_icmp_ge (tgt := 871) hX dX7_isSame_844 (by decide) (fun c_844 => absurd c_844 (show ¬ nI 12 ≤ nI w from nI_ge (by assumption) (by omega))) (fun c_844 => ?_)
                  refine jr_aload_n hX dX7_isSame_847 rfl ?_
                  refine jr_iload hX dX7_isSame_848 rfl ?_
                  refine jr_iload hX dX7_isSame_850 rfl ?_
                  refine jr_ret (jr_runV hX hSt kM_X7_121 (c_boat_ok (jj_fl hX) hly (eqA_sf hq2 htc.1) (by assumption) (by assumption)) rfl rfl (ly_kI hly) ⟨_, _, rfl, by decide⟩ dX7_isSame_852 rfl ⟨by simp only [jj_N]; omega, by simp only [jj_N]; omega⟩ rfl) ?_
                  rw [bf_e (eqT_A hq2) (by omega)]
                  refine jr_aload hX dX7_isSame_855 rfl ?_
                  refine jr_iload hX dX7_isSame_857 rfl ?_
                  refine jr_iald hX (by unfold jj_uK; rw [if_pos rfl]) (by first | with_reducible rfl | with_reducible assumption | rfl) (by omega) dX7_isSame_859 ?_
                  rw [hT w (by assumption)]
                  refine jr_icmp_eq (tgt := 865) hX dX7_isSame_860 (by decide) (fun c_860 => ?_) (fun c_860 => absurd rfl c_860)
                  refine jr_iinc hX dX7_isSame_865 rfl (by first | with_reducible exact jj_inc _ | with_reducible exact jj_inc1 _) rfl ?_
                  refine jr_goto (tgt := 840) hX dX7_isSame_868 (by decide) ?_
                  exact jr_forget (fun _ _ h => h) (fun i v h => by rcases i with _ | _ | _ | _ | _ | _ | _ | _ | _ | _ | _ | _ | _ | _ | _ | _ | _ | _ | i <;> first | exact h | exact absurd h (by simp)) (ih)
              exact b2 0 (Nat.zero_le _)
          exact b1 0 (Nat.zero_le _) _ _ _ _ hly hsy hmi hq
        · intro n1 K1 P1 J hly hsy hmi hq
          have g0 := sy_lt hsy (t := 0) sv_0
          refine jr_iload hX dX7_isSame_340 rfl ?_
          refine jr_aload_n hX dX7_isSame_342 rfl ?_
          refine jr_getr hX kF_X7_24 rfl (sy_k0 hsy) (sy_p0_4 hsy) dX7_isSame_343 ?_
          refine jr_alen (t := 10) hX (by decide) (sy_k4 hsy) dX7_isSame_346 ?_
          refine jr_icmp_ge (tgt := 699) hX dX7_isSame_347 (by decide) (fun c_347 => absurd c_347 (nI_ge (by assumption) (by omega))) (fun c_347 => ?_)
          refine jr_iconst (v := 0) hX dX7_isSame_350 (by decide) ?_
          refine jr_istore hX dX7_isSame_351 rfl ?_
          refine jr_iconst (v := 0) hX dX7_isSame_353 (by decide) ?_
          refine jr_istore hX dX7_isSame_354 rfl ?_
          refine jr_iconst (v := 0) hX dX7_isSame_356 (by decide) ?_
          refine jr_istore hX dX7_isSame_357 rfl ?_
          refine jr_iconst (v := 0) hX dX7_isSame_359 (by decide) ?_
          refine jr_istore hX dX7_isSame_360 rfl ?_
          refine jr_iconst (v := 0) hX dX7_isSame_362 (by decide) ?_
          refine jr_istore hX dX7_isSame_363 rfl ?_
          refine jr_aload_n hX dX7_isSame_365 rfl ?_
          refine jr_getr hX kF_X7_34 rfl (sy_k0 hsy) (sy_p0_6 hsy) dX7_isSame_366 ?_
          refine jr_astore hX dX7_isSame_369 rfl ?_
          refine jr_aload hX dX7_isSame_371 rfl ?_
          refine jr_alen (t := 17) hX (by decide) (sy_k6 hsy) dX7_isSame_373 ?_
          refine jr_istore hX dX7_isSame_374 rfl ?_
          refine jr_iconst (v := 0) hX dX7_isSame_376 (by decide) ?_
          refine jr_istore hX dX7_isSame_377 rfl ?_
          have m2 : ∀ j, j ≤ B → jj_J X D 18 (7 + m) (56 + 6 * m) (jj_MQ X D { frames := 9, cells := 22, slots := 204, locals := 155 } (fun r n1 K1 I1 P1 G1 => G1 = G ∧ r = some (.int 1)) jj_noX) (n1) (K1) (J) (P1) (G) 379 [some (.ref (A 0)), some (.ref (1)), some (.int (nI H)), some (.int (0)), some (.int (0)), some (.int (0)), some (.int (sm (q_ol 0 I) (H - 1))), some (.int (sm (fun m => I (aM 0 m) 0) m)), some (.int (nI m)), some (.int (sm (q_ba 0 (nI m) I) j)), some (.int (0)), some (.int (0)), some (.int (0)), some (.int (sm (q_co 0 (nI m) I) j)), some (.ref (A 6)), some (.int (nI B)), some (.int (nI j)), none] [] := by
            refine jj_for (B) _ ?_ (fun j hj ih => ?_)
            · refine jr_iload hX dX7_isSame_379 rfl ?_
              refine jr_iload hX dX7_isSame_381 rfl ?_
              refine jr_icmp_ge (tgt := 441) hX dX7_isSame_383 (by decide) (fun c_383 => ?_) (fun c_383 => absurd (nI_le (Nat.le_refl _) (by omega)) c_383)
              refine jr_aload_n hX dX7_isSame_441 rfl ?_
              refine jr_getr hX kF_X7_38 rfl (sy_k0 hsy) (sy_p0_7 hsy) dX7_isSame_442 ?_
              refine jr_astore hX dX7_isSame_445 rfl ?_
              refine jr_aload hX dX7_isSame_447 rfl ?_
              refine jr_alen (t := 15) hX (by decide) (sy_k7 hsy) dX7_isSame_449 ?_
              refine jr_istore hX dX7_isSame_450 rfl ?_
              refine jr_iconst (v := 0) hX dX7_isSame_452 (by decide) ?_
              refine jr_istore hX dX7_isSame_453 rfl ?_
              have m3 : ∀ j, j ≤ N → jj_J X D 18 (7 + m) (56 + 6 * m) (jj_MQ X D { frames := 9, cells := 22, slots := 204, locals := 155 } (fun r n1 K1 I1 P1 G1 => G1 = G ∧ r = some (.int 1)) jj_noX) (n1) (K1) (J) (P1) (G) 455 [some (.ref (A 0)), some (.ref (1)), some (.int (nI H)), some (.int (0)), some (.int (0)), some (.int (0)), some (.int (sm (q_ol 0 I) (H - 1))), some (.int (sm (fun m => I (aM 0 m) 0) m)), some (.int (nI m)), some (.int (sm (q_ba 0 (nI m) I) B)), some (.int (sm (q_do 0 (nI m) 0 I) j)), some (.int (sm (q_do 0 (nI m) 2 I) j)), some (.int (0)), some (.int (sm (q_co 0 (nI m) I) B)), some (.ref (A 7)), some (.int (nI N)), some (.int (nI j)), none] [] := by
                refine jj_for (N) _ ?_ (fun j hj ih => ?_)
                · refine jr_iload hX dX7_isSame_455 rfl ?_
                  refine jr_iload hX dX7_isSame_457 rfl ?_
                  refine jr_icmp_ge (tgt := 530) hX dX7_isSame_459 (by decide) (fun c_459 => ?_) (fun c_459 => absurd (nI_le (Nat.le_refl _) (by omega)) c_459)
                  refine jr_iconst (v := 0) hX dX7_isSame_530 (by decide) ?_
                  refine jr_istore hX dX7_isSame_531 rfl ?_
                  have m4 : ∀ hh, hh ≤ H → jj_J X D 18 (7 + m) (56 + 6 * m) (jj_MQ X D { frames := 9, cells := 22, slots := 204, locals := 155 } (fun r n1 K1 I1 P1 G1 => G1 = G ∧ r = some (.int 1)) jj_noX) (n1) (K1) (J) (P1) (G) 533 [some (.ref (A 0)), some (.ref (1)), some (.int (nI H)), some (.int (0)), some (.int (0)), some (.int (0)), some (.int (sm (q_ol 0 I) (H - 1))), some (.int (sm (fun m => I (aM 0 m) 0) m)), some (.int (nI m)), some (.int (sm (q_ba 0 (nI m) I) B)), some (.int (sm (q_do 0 (nI m) 0 I) N)), some (.int (sm (q_do 0 (nI m) 2 I) N)), some (.int (sm (I (aMt 0 m)) (4 * hh))), some (.int (sm (q_co 0 (nI m) I) B)), some (.int (nI hh)), none, none, none] [] := by
                    refine jj_for (H) _ ?_ (fun hh hhh ih => ?_)
                    · refine jr_iload hX dX7_isSame_533 rfl ?_
                      refine jr_iload_n hX dX7_isSame_535 rfl ?_
                      refine jr_icmp_ge (tgt := 606) hX dX7_isSame_536 (by decide) (fun c_536 => ?_) (fun c_536 => absurd (nI_le (Nat.le_refl _) (by omega)) c_536)
                      rw [sm_oz hoz (show m < 5 by omega) hH8]
                      refine jr_bipush (v := 6) hX dX7_isSame_606 (by decide) ?_
                      refine jr_newI hX kA_int (show _ = nI 6 from rfl) (by omega) dX7_isSame_608 ⟨by dsimp only; omega, by dsimp only; omega⟩ ?_
                      have hsy0 := hsy
                      have hly : ly (jj_uK K1 n1 (10, 6)) P1 := ly_up hly (fun a ha => by unfold jj_uK; rw [if_neg (by omega)]) (fun a ha => rfl)
                      have hsy : sy A H M B N (n1 + 1) (jj_uK K1 n1 (10, 6)) P1 := sy_up hsy (by omega) (fun a ha => by unfold jj_uK; rw [if_neg (by omega)]) (fun a ha => rfl)
                      have g4 := (sy_lt hsy0 (t := 4) sv_4).2
                      refine jr_dup hX dX7_isSame_610 rfl ?_
                      refine jr_iconst (v := 0) hX dX7_isSame_611 (by decide) ?_
                      refine jr_aload_n hX dX7_isSame_612 rfl ?_
                      refine jr_getr hX kF_X7_24 rfl (sy_k0 hsy) (sy_p0_4 hsy) dX7_isSame_613 ?_
                      refine jr_iload hX dX7_isSame_616 rfl ?_
                      refine jr_iald hX (by first | with_reducible assumption | with_reducible exact sy_k0 hsy | with_reducible exact sy_k1 hsy | with_reducible exact sy_k2 hsy | with_reducible exact sy_k3 hsy | with_reducible exact sy_k4 hsy | with_reducible exact sy_k5 hsy | with_reducible exact sy_k6 hsy | with_reducible exact sy_k7 hsy | with_reducible exact sy_k8 hsy | with_reducible exact sy_kH hsy (by first | assumption | omega) | with_reducible exact sy_kB hsy (by first | assumption | omega) | with_reducible exact sy_kG hsy (by first | assumption | omega) | with_reducible exact sy_kD hsy (by first | assumption | omega) | with_reducible exact sy_kM hsy (by first | assumption | omega) | with_reducible exact sy_kS hsy (by first | assumption | omega) (by first | assumption | omega)) rfl (by omega) dX7_isSame_618 ?_
                      rw [jj_uR_ne (by omega), hmi.2.2.2.2.1 m (by assumption)]
                      refine jr_iast hX (by unfold jj_uK; rw [if_pos rfl]) (by omega) (show _ = nI 0 from rfl) (by omega) dX7_isSame_619 ?_
                      refine jr_dup hX dX7_isSame_620 rfl ?_
                      refine jr_iconst (v := 1) hX dX7_isSame_621 (by decide) ?_
                      refine jr_iload hX dX7_isSame_622 rfl ?_
                      refine jr_iast hX (by unfold jj_uK; rw [if_pos rfl]) (by omega) (show _ = nI 1 from rfl) (by omega) dX7_isSame_624 ?_
                      refine jr_dup hX dX7_isSame_625 rfl ?_
                      refine jr_iconst (v := 2) hX dX7_isSame_626 (by decide) ?_
                      refine jr_iload hX dX7_isSame_627 rfl ?_
                      refine jr_iast hX (by unfold jj_uK; rw [if_pos rfl]) (by omega) (show _ = nI 2 from rfl) (by omega) dX7_isSame_629 ?_
                      refine jr_dup hX dX7_isSame_630 rfl ?_
                      refine jr_iconst (v := 3) hX dX7_isSame_631 (by decide) ?_
                      refine jr_iload hX dX7_isSame_632 rfl ?_
                      refine jr_iast hX (by unfold jj_uK; rw [if_pos rfl]) (by omega) (show _ = nI 3 from rfl) (by omega) dX7_isSame_634 ?_
                      refine jr_dup hX dX7_isSame_635 rfl ?_
                      refine jr_iconst (v := 4) hX dX7_isSame_636 (by decide) ?_
                      refine jr_iload hX dX7_isSame_637 rfl ?_
                      refine jr_iast hX (by unfold jj_uK; rw [if_pos rfl]) (by omega) (show _ = nI 4 from rfl) (by omega) dX7_isSame_639 ?_
                      refine jr_dup hX dX7_isSame_640 rfl ?_
                      refine jr_iconst (v := 5) hX dX7_isSame_641 (by decide) ?_
                      refine jr_iload hX dX7_isSame_642 rfl ?_
                      refine jr_iast hX (by unfold jj_uK; rw [if_pos rfl]) (by omega) (show _ = nI 5 from rfl) (by omega) dX7_isSame_644 ?_
                      refine jr_astore hX dX7_isSame_645 rfl ?_
                      refine jr_I (I1 := s_row J n1 6 (q_mf m B N I)) rfl ?_
                      obtain ⟨hT, hF⟩ := s_row_p (J := J) (n := n1) (f := q_mf m B N I) (m := 6)
                      generalize s_row J n1 6 (q_mf m B N I) = J2 at hT hF
                      have hmi2 := ms_f hsy0 hmi (fun a ha => hF a (by omega))
                      have hq2 : eqA J2 I := fun a ha => (hF a (by omega)).trans (hq a ha)
                      refine jr_iconst (v := 0) hX dX7_isSame_647 (by decide) ?_
                      refine jr_istore hX dX7_isSame_648 rfl ?_
                      have m6 : ∀ w, w ≤ 6 → jj_J X D 18 (7 + m + 1) (56 + 6 * m + 6) (jj_MQ X D { frames := 9, cells := 22, slots := 204, locals := 155 } (fun r n1 K1 I1 P1 G1 => G1 = G ∧ r = some (.int 1)) jj_noX) (n1 + 1) (jj_uK K1 n1 (10, 6)) (J2) (P1) (G) 650 [some (.ref (A 0)), some (.ref (1)), some (.int (nI H)), some (.int (0)), some (.int (0)), some (.int (0)), some (.int (sm (q_ol 0 I) (H - 1))), some (.int (sm (fun m => I (aM 0 m) 0) m)), some (.int (nI m)), some (.int (sm (q_ba 0 (nI m) I) B)), some (.int (sm (q_do 0 (nI m) 0 I) N)), some (.int (sm (q_do 0 (nI m) 2 I) N)), some (.int (sm (I (aMt 0 m)) 32)), some (.int (sm (q_co 0 (nI m) I) B)), some (.ref (n1)), some (.int (nI w)), none, none] [] := by
                        refine jj_for (6) _ ?_ (fun w hw ih => ?_)
                        · refine jr_iload hX dX7_isSame_650 rfl ?_
                          refine jr_bipush (v := 6) hX dX7_isSame_652 (by decide) ?_
                          refine jr_icmp_ge (tgt := 681) hX dX7_isSame_654 (by decide) (fun c_654 => ?_) (fun c_654 => absurd (by decide) c_654)
                          refine jr_iload hX dX7_isSame_681 rfl ?_
                          refine jr_aload_n hX dX7_isSame_683 rfl ?_
                          refine jr_getr hX kF_X7_24 rfl (sy_k0 hsy) (sy_p0_4 hsy) dX7_isSame_684 ?_
                          refine jr_iload hX dX7_isSame_687 rfl ?_
                          refine jr_iald hX (by first | with_reducible assumption | with_reducible exact sy_k0 hsy | with_reducible exact sy_k1 hsy | with_reducible exact sy_k2 hsy | with_reducible exact sy_k3 hsy | with_reducible exact sy_k4 hsy | with_reducible exact sy_k5 hsy | with_reducible exact sy_k6 hsy | with_reducible exact sy_k7 hsy | with_reducible exact sy_k8 hsy | with_reducible exact sy_kH hsy (by first | assumption | omega) | with_reducible exact sy_kB hsy (by first | assumption | omega) | with_reducible exact sy_kG hsy (by first | assumption | omega) | with_reducible exact sy_kD hsy (by first | assumption | omega) | with_reducible exact sy_kM hsy (by first | assumption | omega) | with_reducible exact sy_kS hsy (by first | assumption | omega) (by first | assumption | omega)) rfl (by omega) dX7_isSame_689 ?_
                          rw [hmi2.2.2.2.2.1 m (by assumption)]
                          refine jr_iadd hX dX7_isSame_690 ?_
                          refine jr_istore hX dX7_isSame_691 rfl ?_
                          refine jr_iinc hX dX7_isSame_693 rfl (by first | with_reducible exact jj_inc _ | with_reducible exact jj_inc1 _) rfl ?_
                          refine jr_goto (tgt := 340) hX dX7_isSame_696 (by decide) ?_
                          exact jr_forget (fun _ _ h => h) (fun i v h => by rcases i with _ | _ | _ | _ | _ | _ | _ | _ | _ | _ | _ | _ | _ | _ | _ | _ | _ | _ | i <;> first | exact h | exact absurd h (by simp)) (ih _ _ _ _ hly hsy hmi2 hq2)
                        · refine jr_iload hX dX7_isSame_650 rfl ?_
                          refine jr_bipush (v := 6) hX dX7_isSame_652 (by decide) ?_
                          refine jr_icmp_ge (tgt := 681) hX dX7_isSame_654 (by decide) (fun c_654 => absurd c_654 (show ¬ nI 6 ≤ nI w from nI_ge (by assumption) (by omega))) (fun c_654 => ?_)
                          refine jr_aload_n hX dX7_isSame_657 rfl ?_
                          refine jr_iload hX dX7_isSame_658 rfl ?_
                          refine jr_iload hX dX7_isSame_660 rfl ?_
                          refine jr_ret (jr_runV hX hSt kM_X7_118 (c_merchant_ok (jj_fl hX) hly (eqA_sf hq2 htc.1) (by assumption) (by assumption)) rfl rfl (ly_kI hly) ⟨_, _, rfl, by decide⟩ dX7_isSame_662 rfl ⟨by simp only [jj_N]; omega, by simp only [jj_N]; omega⟩ rfl) ?_
                          rw [mf_e (eqT_A hq2) hB10 hN30 (by omega)]
                          refine jr_aload hX dX7_isSame_665 rfl ?_
                          refine jr_iload hX dX7_isSame_667 rfl ?_
                          refine jr_iald hX (by unfold jj_uK; rw [if_pos rfl]) (by first | with_reducible rfl | with_reducible assumption | rfl) (by omega) dX7_isSame_669 ?_
                          rw [hT w (by assumption)]
                          refine jr_icmp_eq (tgt := 675) hX dX7_isSame_670 (by decide) (fun c_670 => ?_) (fun c_670 => absurd rfl c_670)
                          refine jr_iinc hX dX7_isSame_675 rfl (by first | with_reducible exact jj_inc _ | with_reducible exact jj_inc1 _) rfl ?_
                          refine jr_goto (tgt := 650) hX dX7_isSame_678 (by decide) ?_
                          exact jr_forget (fun _ _ h => h) (fun i v h => by rcases i with _ | _ | _ | _ | _ | _ | _ | _ | _ | _ | _ | _ | _ | _ | _ | _ | _ | _ | i <;> first | exact h | exact absurd h (by simp)) (ih)
                      exact m6 0 (Nat.zero_le _)
                    · refine jr_iload hX dX7_isSame_533 rfl ?_
                      refine jr_iload_n hX dX7_isSame_535 rfl ?_
                      refine jr_icmp_ge (tgt := 606) hX dX7_isSame_536 (by decide) (fun c_536 => absurd c_536 (nI_ge (by assumption) (by omega))) (fun c_536 => ?_)
                      refine jr_iconst (v := 0) hX dX7_isSame_539 (by decide) ?_
                      refine jr_istore hX dX7_isSame_540 rfl ?_
                      have m5 : ∀ g, g ≤ 4 → jj_J X D 18 (7 + m) (56 + 6 * m) (jj_MQ X D { frames := 9, cells := 22, slots := 204, locals := 155 } (fun r n1 K1 I1 P1 G1 => G1 = G ∧ r = some (.int 1)) jj_noX) (n1) (K1) (J) (P1) (G) 542 [some (.ref (A 0)), some (.ref (1)), some (.int (nI H)), some (.int (0)), some (.int (0)), some (.int (0)), some (.int (sm (q_ol 0 I) (H - 1))), some (.int (sm (fun m => I (aM 0 m) 0) m)), some (.int (nI m)), some (.int (sm (q_ba 0 (nI m) I) B)), some (.int (sm (q_do 0 (nI m) 0 I) N)), some (.int (sm (q_do 0 (nI m) 2 I) N)), some (.int (sm (I (aMt 0 m)) (4 * hh + g))), some (.int (sm (q_co 0 (nI m) I) B)), some (.int (nI hh)), some (.int (nI g)), none, none] [] := by
                        refine jj_for (4) _ ?_ (fun g hg ih => ?_)
                        · refine jr_iload hX dX7_isSame_542 rfl ?_
                          refine jr_iconst (v := 4) hX dX7_isSame_544 (by decide) ?_
                          refine jr_icmp_ge (tgt := 600) hX dX7_isSame_545 (by decide) (fun c_545 => ?_) (fun c_545 => absurd (by decide) c_545)
                          refine jr_iinc hX dX7_isSame_600 rfl (by first | with_reducible exact jj_inc _ | with_reducible exact jj_inc1 _) rfl ?_
                          refine jr_goto (tgt := 533) hX dX7_isSame_603 (by decide) ?_
                          exact jr_forget (fun _ _ h => h) (fun i v h => by rcases i with _ | _ | _ | _ | _ | _ | _ | _ | _ | _ | _ | _ | _ | _ | _ | _ | _ | _ | i <;> first | exact h | exact absurd h (by simp)) (ih)
                        · refine jr_iload hX dX7_isSame_542 rfl ?_
                          refine jr_iconst (v := 4) hX dX7_isSame_544 (by decide) ?_
                          refine jr_icmp_ge (tgt := 600) hX dX7_isSame_545 (by decide) (fun c_545 => absurd c_545 (show ¬ nI 4 ≤ nI g from nI_ge (by assumption) (by omega))) (fun c_545 => ?_)
                          refine jr_iload hX dX7_isSame_548 rfl ?_
                          refine jr_aload_n hX dX7_isSame_550 rfl ?_
                          refine jr_getr hX kF_X7_29 rfl (sy_k0 hsy) (sy_p0_5 hsy) dX7_isSame_551 ?_
                          refine jr_iload hX dX7_isSame_554 rfl ?_
                          refine jr_aald (t := 16) hX (by decide) (sy_k8 hsy) rfl (by omega) (sy_qM hsy (by omega)) dX7_isSame_556 ?_
                          refine jr_iload hX dX7_isSame_557 rfl ?_
                          refine jr_aald (t := 15) hX (by decide) (sy_kM hsy (by omega)) rfl (by omega) (sy_qS hsy (by omega) (by omega)) dX7_isSame_559 ?_
                          refine jr_iload hX dX7_isSame_560 rfl ?_
                          refine jr_iald hX (by first | with_reducible assumption | with_reducible exact sy_k0 hsy | with_reducible exact sy_k1 hsy | with_reducible exact sy_k2 hsy | with_reducible exact sy_k3 hsy | with_reducible exact sy_k4 hsy | with_reducible exact sy_k5 hsy | with_reducible exact sy_k6 hsy | with_reducible exact sy_k7 hsy | with_reducible exact sy_k8 hsy | with_reducible exact sy_kH hsy (by first | assumption | omega) | with_reducible exact sy_kB hsy (by first | assumption | omega) | with_reducible exact sy_kG hsy (by first | assumption | omega) | with_reducible exact sy_kD hsy (by first | assumption | omega) | with_reducible exact sy_kM hsy (by first | assumption | omega) | with_reducible exact sy_kS hsy (by first | assumption | omega) (by first | assumption | omega)) rfl (by omega) dX7_isSame_562 ?_
                          rw [hmi.2.2.2.2.2.2.2.2 m (by omega) hh (by omega) g (by assumption)]
                          refine jr_iadd hX dX7_isSame_563 ?_
                          refine jr_istore hX dX7_isSame_564 rfl ?_
                          refine jr_aload_n hX dX7_isSame_566 rfl ?_
                          refine jr_iload hX dX7_isSame_567 rfl ?_
                          refine jr_iload hX dX7_isSame_569 rfl ?_
                          refine jr_iload hX dX7_isSame_571 rfl ?_
                          refine jr_ret (jr_runV hX hSt kM_X7_115 (c_stock_ok (jj_fl hX) hly (eqA_sf hq htc.1) (by assumption) (by assumption) (by assumption)) rfl rfl (ly_kI hly) ⟨_, _, rfl, by decide⟩ dX7_isSame_573 rfl ⟨by simp only [jj_N]; omega, by simp only [jj_N]; omega⟩ rfl) ?_
                          rw [show hh * 4 + g = 4 * hh + g by omega, hq (aMt 0 m) (by simp only [aMt]; omega)]
                          refine jr_aload_n hX dX7_isSame_576 rfl ?_
                          refine jr_getr hX kF_X7_29 rfl (sy_k0 hsy) (sy_p0_5 hsy) dX7_isSame_577 ?_
                          refine jr_iload hX dX7_isSame_580 rfl ?_
                          refine jr_aald (t := 16) hX (by decide) (sy_k8 hsy) rfl (by omega) (sy_qM hsy (by omega)) dX7_isSame_582 ?_
                          refine jr_iload hX dX7_isSame_583 rfl ?_
                          refine jr_aald (t := 15) hX (by decide) (sy_kM hsy (by omega)) rfl (by omega) (sy_qS hsy (by omega) (by omega)) dX7_isSame_585 ?_
                          refine jr_iload hX dX7_isSame_586 rfl ?_
                          refine jr_iald hX (by first | with_reducible assumption | with_reducible exact sy_k0 hsy | with_reducible exact sy_k1 hsy | with_reducible exact sy_k2 hsy | with_reducible exact sy_k3 hsy | with_reducible exact sy_k4 hsy | with_reducible exact sy_k5 hsy | with_reducible exact sy_k6 hsy | with_reducible exact sy_k7 hsy | with_reducible exact sy_k8 hsy | with_reducible exact sy_kH hsy (by first | assumption | omega) | with_reducible exact sy_kB hsy (by first | assumption | omega) | with_reducible exact sy_kG hsy (by first | assumption | omega) | with_reducible exact sy_kD hsy (by first | assumption | omega) | with_reducible exact sy_kM hsy (by first | assumption | omega) | with_reducible exact sy_kS hsy (by first | assumption | omega) (by first | assumption | omega)) rfl (by omega) dX7_isSame_588 ?_
                          rw [hmi.2.2.2.2.2.2.2.2 m (by omega) hh (by omega) g (by assumption)]
                          refine jr_icmp_eq (tgt := 594) hX dX7_isSame_589 (by decide) (fun c_589 => ?_) (fun c_589 => absurd rfl c_589)
                          refine jr_iinc hX dX7_isSame_594 rfl (by first | with_reducible exact jj_inc _ | with_reducible exact jj_inc1 _) rfl ?_
                          refine jr_goto (tgt := 542) hX dX7_isSame_597 (by decide) ?_
                          exact jr_forget (fun _ _ h => h) (fun i v h => by rcases i with _ | _ | _ | _ | _ | _ | _ | _ | _ | _ | _ | _ | _ | _ | _ | _ | _ | _ | i <;> first | exact h | exact absurd h (by simp)) (ih)
                      exact m5 0 (Nat.zero_le _)
                  exact jr_forget (fun _ _ h => h) (fun i v h => by rcases i with _ | _ | _ | _ | _ | _ | _ | _ | _ | _ | _ | _ | _ | _ | _ | _ | _ | _ | i <;> first | exact h | exact absurd h (by simp)) (m4 0 (Nat.zero_le _))
                · refine jr_iload hX dX7_isSame_455 rfl ?_
                  refine jr_iload hX dX7_isSame_457 rfl ?_
                  refine jr_icmp_ge (tgt := 530) hX dX7_isSame_459 (by decide) (fun c_459 => absurd c_459 (nI_ge (by assumption) (by omega))) (fun c_459 => ?_)
                  refine jr_aload hX dX7_isSame_462 rfl ?_
                  refine jr_iload hX dX7_isSame_464 rfl ?_
                  refine jr_aald (t := 15) hX (by decide) (sy_k7 hsy) rfl (by omega) (sy_qD hsy (by omega)) dX7_isSame_466 ?_
                  have ed := hmi.2.2.2.2.2.2.2.1 j (by assumption)
                  refine jr_astore hX dX7_isSame_467 rfl ?_
                  refine jr_iload hX dX7_isSame_469 rfl ?_
                  refine jr_aload hX dX7_isSame_471 rfl ?_
                  refine jr_iconst (v := 1) hX dX7_isSame_473 (by decide) ?_
                  refine jr_iald hX (by first | with_reducible assumption | with_reducible exact sy_k0 hsy | with_reducible exact sy_k1 hsy | with_reducible exact sy_k2 hsy | with_reducible exact sy_k3 hsy | with_reducible exact sy_k4 hsy | with_reducible exact sy_k5 hsy | with_reducible exact sy_k6 hsy | with_reducible exact sy_k7 hsy | with_reducible exact sy_k8 hsy | with_reducible exact sy_kH hsy (by first | assumption | omega) | with_reducible exact sy_kB hsy (by first | assumption | omega) | with_reducible exact sy_kG hsy (by first | assumption | omega) | with_reducible exact sy_kD hsy (by first | assumption | omega) | with_reducible exact sy_kM hsy (by first | assumption | omega) | with_reducible exact sy_kS hsy (by first | assumption | omega) (by first | assumption | omega)) (show _ = nI 1 from rfl) (by omega) dX7_isSame_474 ?_
                  rw [ed 1 (by decide)]
                  refine jr_iload hX dX7_isSame_475 rfl ?_
                  refine jr_icmp_ne (tgt := 492) hX dX7_isSame_477 (by decide) (fun c_477 => ?_) (fun c_477 => ?_)
                  · refine jr_iconst (v := 0) hX dX7_isSame_492 (by decide) ?_
                    refine jr_iadd hX dX7_isSame_493 ?_
                    refine jr_istore hX dX7_isSame_494 rfl ?_
                    refine jr_iload hX dX7_isSame_496 rfl ?_
                    refine jr_aload hX dX7_isSame_498 rfl ?_
                    refine jr_iconst (v := 1) hX dX7_isSame_500 (by decide) ?_
                    refine jr_iald hX (by first | with_reducible assumption | with_reducible exact sy_k0 hsy | with_reducible exact sy_k1 hsy | with_reducible exact sy_k2 hsy | with_reducible exact sy_k3 hsy | with_reducible exact sy_k4 hsy | with_reducible exact sy_k5 hsy | with_reducible exact sy_k6 hsy | with_reducible exact sy_k7 hsy | with_reducible exact sy_k8 hsy | with_reducible exact sy_kH hsy (by first | assumption | omega) | with_reducible exact sy_kB hsy (by first | assumption | omega) | with_reducible exact sy_kG hsy (by first | assumption | omega) | with_reducible exact sy_kD hsy (by first | assumption | omega) | with_reducible exact sy_kM hsy (by first | assumption | omega) | with_reducible exact sy_kS hsy (by first | assumption | omega) (by first | assumption | omega)) (show _ = nI 1 from rfl) (by omega) dX7_isSame_501 ?_
                    rw [ed 1 (by decide)]
                    refine jr_iload hX dX7_isSame_502 rfl ?_
                    refine jr_icmp_ne (tgt := 520) hX dX7_isSame_504 (by decide) (fun c_504 => ?_) (fun c_504 => absurd c_504 c_477)
                    refine jr_iconst (v := 0) hX dX7_isSame_520 (by decide) ?_
                    refine jr_iadd hX dX7_isSame_521 ?_
                    refine jr_istore hX dX7_isSame_522 rfl ?_
                    refine jr_iinc hX dX7_isSame_524 rfl (by first | with_reducible exact jj_inc _ | with_reducible exact jj_inc1 _) rfl ?_
                    refine jr_goto (tgt := 455) hX dX7_isSame_527 (by decide) ?_
                    rw [sm_1 (show q_do 0 (nI m) 0 I j = 0 from if_neg (fun q => c_477 q.1)), sm_1 (show q_do 0 (nI m) 2 I j = 0 from if_neg (fun q => c_477 q.1))] at ih
                    exact jr_forget (fun _ _ h => h) (fun i v h => by rcases i with _ | _ | _ | _ | _ | _ | _ | _ | _ | _ | _ | _ | _ | _ | _ | _ | _ | _ | i <;> first | exact h | exact absurd h (by simp)) (ih)
                  · refine jr_aload hX dX7_isSame_480 rfl ?_
                    refine jr_bipush (v := 6) hX dX7_isSame_482 (by decide) ?_
                    refine jr_iald hX (by first | with_reducible assumption | with_reducible exact sy_k0 hsy | with_reducible exact sy_k1 hsy | with_reducible exact sy_k2 hsy | with_reducible exact sy_k3 hsy | with_reducible exact sy_k4 hsy | with_reducible exact sy_k5 hsy | with_reducible exact sy_k6 hsy | with_reducible exact sy_k7 hsy | with_reducible exact sy_k8 hsy | with_reducible exact sy_kH hsy (by first | assumption | omega) | with_reducible exact sy_kB hsy (by first | assumption | omega) | with_reducible exact sy_kG hsy (by first | assumption | omega) | with_reducible exact sy_kD hsy (by first | assumption | omega) | with_reducible exact sy_kM hsy (by first | assumption | omega) | with_reducible exact sy_kS hsy (by first | assumption | omega) (by first | assumption | omega)) (show _ = nI 6 from rfl) (by omega) dX7_isSame_484 ?_
                    rw [ed 6 (by decide)]
                    refine jr_if_ne (tgt := 492) hX dX7_isSame_485 (by decide) (fun c_485 => ?_) (fun c_485 => ?_)
                    · refine jr_iconst (v := 0) hX dX7_isSame_492 (by decide) ?_
                      refine jr_iadd hX dX7_isSame_493 ?_
                      refine jr_istore hX dX7_isSame_494 rfl ?_
                      refine jr_iload hX dX7_isSame_496 rfl ?_
                      refine jr_aload hX dX7_isSame_498 rfl ?_
                      refine jr_iconst (v := 1) hX dX7_isSame_500 (by decide) ?_
                      refine jr_iald hX (by first | with_reducible assumption | with_reducible exact sy_k0 hsy | with_reducible exact sy_k1 hsy | with_reducible exact sy_k2 hsy | with_reducible exact sy_k3 hsy | with_reducible exact sy_k4 hsy | with_reducible exact sy_k5 hsy | with_reducible exact sy_k6 hsy | with_reducible exact sy_k7 hsy | with_reducible exact sy_k8 hsy | with_reducible exact sy_kH hsy (by first | assumption | omega) | with_reducible exact sy_kB hsy (by first | assumption | omega) | with_reducible exact sy_kG hsy (by first | assumption | omega) | with_reducible exact sy_kD hsy (by first | assumption | omega) | with_reducible exact sy_kM hsy (by first | assumption | omega) | with_reducible exact sy_kS hsy (by first | assumption | omega) (by first | assumption | omega)) (show _ = nI 1 from rfl) (by omega) dX7_isSame_501 ?_
                      rw [ed 1 (by decide)]
                      refine jr_iload hX dX7_isSame_502 rfl ?_
                      refine jr_icmp_ne (tgt := 520) hX dX7_isSame_504 (by decide) (fun c_504 => absurd c_504 (fun q => q c_477)) (fun c_504 => ?_)
                      refine jr_aload hX dX7_isSame_507 rfl ?_
                      refine jr_bipush (v := 6) hX dX7_isSame_509 (by decide) ?_
                      refine jr_iald hX (by first | with_reducible assumption | with_reducible exact sy_k0 hsy | with_reducible exact sy_k1 hsy | with_reducible exact sy_k2 hsy | with_reducible exact sy_k3 hsy | with_reducible exact sy_k4 hsy | with_reducible exact sy_k5 hsy | with_reducible exact sy_k6 hsy | with_reducible exact sy_k7 hsy | with_reducible exact sy_k8 hsy | with_reducible exact sy_kH hsy (by first | assumption | omega) | with_reducible exact sy_kB hsy (by first | assumption | omega) | with_reducible exact sy_kG hsy (by first | assumption | omega) | with_reducible exact sy_kD hsy (by first | assumption | omega) | with_reducible exact sy_kM hsy (by first | assumption | omega) | with_reducible exact sy_kS hsy (by first | assumption | omega) (by first | assumption | omega)) (show _ = nI 6 from rfl) (by omega) dX7_isSame_511 ?_
                      rw [ed 6 (by decide)]
                      refine jr_iconst (v := 2) hX dX7_isSame_512 (by decide) ?_
                      refine jr_icmp_ne (tgt := 520) hX dX7_isSame_513 (by decide) (fun c_513 => ?_) (fun c_513 => ?_)
                      · refine jr_iconst (v := 0) hX dX7_isSame_520 (by decide) ?_
                        refine jr_iadd hX dX7_isSame_521 ?_
                        refine jr_istore hX dX7_isSame_522 rfl ?_
                        refine jr_iinc hX dX7_isSame_524 rfl (by first | with_reducible exact jj_inc _ | with_reducible exact jj_inc1 _) rfl ?_
                        refine jr_goto (tgt := 455) hX dX7_isSame_527 (by decide) ?_
                        rw [sm_1 (show q_do 0 (nI m) 0 I j = 0 from if_neg (fun q => c_485 q.2)), sm_1 (show q_do 0 (nI m) 2 I j = 0 from if_neg (fun q => c_513 q.2))] at ih
                        exact jr_forget (fun _ _ h => h) (fun i v h => by rcases i with _ | _ | _ | _ | _ | _ | _ | _ | _ | _ | _ | _ | _ | _ | _ | _ | _ | _ | i <;> first | exact h | exact absurd h (by simp)) (ih)
                      · refine jr_iconst (v := 1) hX dX7_isSame_516 (by decide) ?_
                        refine jr_goto (tgt := 521) hX dX7_isSame_517 (by decide) ?_
                        refine jr_iadd hX dX7_isSame_521 ?_
                        refine jr_istore hX dX7_isSame_522 rfl ?_
                        refine jr_iinc hX dX7_isSame_524 rfl (by first | with_reducible exact jj_inc _ | with_reducible exact jj_inc1 _) rfl ?_
                        refine jr_goto (tgt := 455) hX dX7_isSame_527 (by decide) ?_
                        rw [sm_1 (show q_do 0 (nI m) 0 I j = 0 from if_neg (fun q => c_485 q.2)), sm_1 (show q_do 0 (nI m) 2 I j = 1 from if_pos ⟨c_477, c_513⟩)] at ih
                        exact jr_forget (fun _ _ h => h) (fun i v h => by rcases i with _ | _ | _ | _ | _ | _ | _ | _ | _ | _ | _ | _ | _ | _ | _ | _ | _ | _ | i <;> first | exact h | exact absurd h (by simp)) (ih)
                    · refine jr_iconst (v := 1) hX dX7_isSame_488 (by decide) ?_
                      refine jr_goto (tgt := 493) hX dX7_isSame_489 (by decide) ?_
                      refine jr_iadd hX dX7_isSame_493 ?_
                      refine jr_istore hX dX7_isSame_494 rfl ?_
                      refine jr_iload hX dX7_isSame_496 rfl ?_
                      refine jr_aload hX dX7_isSame_498 rfl ?_
                      refine jr_iconst (v := 1) hX dX7_isSame_500 (by decide) ?_
                      refine jr_iald hX (by first | with_reducible assumption | with_reducible exact sy_k0 hsy | with_reducible exact sy_k1 hsy | with_reducible exact sy_k2 hsy | with_reducible exact sy_k3 hsy | with_reducible exact sy_k4 hsy | with_reducible exact sy_k5 hsy | with_reducible exact sy_k6 hsy | with_reducible exact sy_k7 hsy | with_reducible exact sy_k8 hsy | with_reducible exact sy_kH hsy (by first | assumption | omega) | with_reducible exact sy_kB hsy (by first | assumption | omega) | with_reducible exact sy_kG hsy (by first | assumption | omega) | with_reducible exact sy_kD hsy (by first | assumption | omega) | with_reducible exact sy_kM hsy (by first | assumption | omega) | with_reducible exact sy_kS hsy (by first | assumption | omega) (by first | assumption | omega)) (show _ = nI 1 from rfl) (by omega) dX7_isSame_501 ?_
                      rw [ed 1 (by decide)]
                      refine jr_iload hX dX7_isSame_502 rfl ?_
                      refine jr_icmp_ne (tgt := 520) hX dX7_isSame_504 (by decide) (fun c_504 => absurd c_504 (fun q => q c_477)) (fun c_504 => ?_)
                      refine jr_aload hX dX7_isSame_507 rfl ?_
                      refine jr_bipush (v := 6) hX dX7_isSame_509 (by decide) ?_
                      refine jr_iald hX (by first | with_reducible assumption | with_reducible exact sy_k0 hsy | with_reducible exact sy_k1 hsy | with_reducible exact sy_k2 hsy | with_reducible exact sy_k3 hsy | with_reducible exact sy_k4 hsy | with_reducible exact sy_k5 hsy | with_reducible exact sy_k6 hsy | with_reducible exact sy_k7 hsy | with_reducible exact sy_k8 hsy | with_reducible exact sy_kH hsy (by first | assumption | omega) | with_reducible exact sy_kB hsy (by first | assumption | omega) | with_reducible exact sy_kG hsy (by first | assumption | omega) | with_reducible exact sy_kD hsy (by first | assumption | omega) | with_reducible exact sy_kM hsy (by first | assumption | omega) | with_reducible exact sy_kS hsy (by first | assumption | omega) (by first | assumption | omega)) (show _ = nI 6 from rfl) (by omega) dX7_isSame_511 ?_
                      rw [ed 6 (by decide)]
                      refine jr_iconst (v := 2) hX dX7_isSame_512 (by decide) ?_
                      refine jr_icmp_ne (tgt := 520) hX dX7_isSame_513 (by decide) (fun c_513 => ?_) (fun c_513 => absurd (c_485.symm.trans c_513) (by decide))
                      refine jr_iconst (v := 0) hX dX7_isSame_520 (by decide) ?_
                      refine jr_iadd hX dX7_isSame_521 ?_
                      refine jr_istore hX dX7_isSame_522 rfl ?_
                      refine jr_iinc hX dX7_isSame_524 rfl (by first | with_reducible exact jj_inc _ | with_reducible exact jj_inc1 _) rfl ?_
                      refine jr_goto (tgt := 455) hX dX7_isSame_527 (by decide) ?_
                      rw [sm_1 (show q_do 0 (nI m) 0 I j = 1 from if_pos ⟨c_477, c_485⟩), sm_1 (show q_do 0 (nI m) 2 I j = 0 from if_neg (fun q => c_513 q.2))] at ih
                      exact jr_forget (fun _ _ h => h) (fun i v h => by rcases i with _ | _ | _ | _ | _ | _ | _ | _ | _ | _ | _ | _ | _ | _ | _ | _ | _ | _ | i <;> first | exact h | exact absurd h (by simp)) (ih)
              exact m3 0 (Nat.zero_le _)
            · refine jr_iload hX dX7_isSame_379 rfl ?_
              refine jr_iload hX dX7_isSame_381 rfl ?_
              refine jr_icmp_ge (tgt := 441) hX dX7_isSame_383 (by decide) (fun c_383 => absurd c_383 (nI_ge (by assumption) (by omega))) (fun c_383 => ?_)
              refine jr_aload hX dX7_isSame_386 rfl ?_
              refine jr_iload hX dX7_isSame_388 rfl ?_
              refine jr_aald (t := 17) hX (by decide) (sy_k6 hsy) rfl (by omega) (sy_qB hsy (by omega)) dX7_isSame_390 ?_
              obtain ⟨r0, r1, r2, r3, r4, r5, r6, r7, r8⟩ := hmi.2.2.2.2.2.2.1 j (by assumption)
              refine jr_astore hX dX7_isSame_391 rfl ?_
              refine jr_aload hX dX7_isSame_393 rfl ?_
              refine jr_geti hX kF_X7_55 rfl (sy_kB hsy (by first | assumption | omega)) dX7_isSame_395 ?_
              rw [r0]
              refine jr_iload hX dX7_isSame_398 rfl ?_
              refine jr_icmp_eq (tgt := 406) hX dX7_isSame_400 (by decide) (fun c_400 => ?_) (fun c_400 => ?_)
              · refine jr_iload hX dX7_isSame_406 rfl ?_
                refine jr_aload hX dX7_isSame_408 rfl ?_
                refine jr_geti hX kF_X7_67 rfl (sy_kB hsy (by first | assumption | omega)) dX7_isSame_410 ?_
                rw [r3]
                refine jr_iconst (v := 3) hX dX7_isSame_413 (by decide) ?_
                refine jr_icmp_ge (tgt := 421) hX dX7_isSame_414 (by decide) (fun c_414 => ?_) (fun c_414 => ?_)
                · refine jr_iconst (v := 0) hX dX7_isSame_421 (by decide) ?_
                  refine jr_iadd hX dX7_isSame_422 ?_
                  refine jr_istore hX dX7_isSame_423 rfl ?_
                  refine jr_iload hX dX7_isSame_425 rfl ?_
                  refine jr_aload hX dX7_isSame_427 rfl ?_
                  refine jr_ret (jr_runV hX hSt kM_X7_112 (s_all (jj_fl hX) hsy (by assumption)) rfl rfl (sy_kB hsy (by first | assumption | omega)) ⟨_, _, rfl, by decide⟩ dX7_isSame_429 rfl ⟨by simp only [jj_N]; omega, by simp only [jj_N]; omega⟩ rfl) ?_
                  rw [s_al_eq hmi (by assumption)]
                  refine jr_iadd hX dX7_isSame_432 ?_
                  refine jr_istore hX dX7_isSame_433 rfl ?_
                  refine jr_iinc hX dX7_isSame_435 rfl (by first | with_reducible exact jj_inc _ | with_reducible exact jj_inc1 _) rfl ?_
                  refine jr_goto (tgt := 379) hX dX7_isSame_438 (by decide) ?_
                  rw [sm_1 (show q_ba 0 (nI m) I j = 0 from if_neg (fun q => q.2 (i_st3 (htc.1.2.2.2.2.1 j (by assumption)).2.1 c_414))), sm_1 (show q_co 0 (nI m) I j = sm (I (aBc 0 j)) 4 from if_pos c_400)] at ih
                  exact jr_forget (fun _ _ h => h) (fun i v h => by rcases i with _ | _ | _ | _ | _ | _ | _ | _ | _ | _ | _ | _ | _ | _ | _ | _ | _ | _ | i <;> first | exact h | exact absurd h (by simp)) (ih)
                · refine jr_iconst (v := 1) hX dX7_isSame_417 (by decide) ?_
                  refine jr_goto (tgt := 422) hX dX7_isSame_418 (by decide) ?_
                  refine jr_iadd hX dX7_isSame_422 ?_
                  refine jr_istore hX dX7_isSame_423 rfl ?_
                  refine jr_iload hX dX7_isSame_425 rfl ?_
                  refine jr_aload hX dX7_isSame_427 rfl ?_
                  refine jr_ret (jr_runV hX hSt kM_X7_112 (s_all (jj_fl hX) hsy (by assumption)) rfl rfl (sy_kB hsy (by first | assumption | omega)) ⟨_, _, rfl, by decide⟩ dX7_isSame_429 rfl ⟨by simp only [jj_N]; omega, by simp only [jj_N]; omega⟩ rfl) ?_
                  rw [s_al_eq hmi (by assumption)]
                  refine jr_iadd hX dX7_isSame_432 ?_
                  refine jr_istore hX dX7_isSame_433 rfl ?_
                  refine jr_iinc hX dX7_isSame_435 rfl (by first | with_reducible exact jj_inc _ | with_reducible exact jj_inc1 _) rfl ?_
                  refine jr_goto (tgt := 379) hX dX7_isSame_438 (by decide) ?_
                  rw [sm_1 (show q_ba 0 (nI m) I j = 1 from if_pos ⟨c_400, fun q => c_414 (by rw [q]; decide)⟩), sm_1 (show q_co 0 (nI m) I j = sm (I (aBc 0 j)) 4 from if_pos c_400)] at ih
                  exact jr_forget (fun _ _ h => h) (fun i v h => by rcases i with _ | _ | _ | _ | _ | _ | _ | _ | _ | _ | _ | _ | _ | _ | _ | _ | _ | _ | i <;> first | exact h | exact absurd h (by simp)) (ih)
              · refine jr_goto (tgt := 435) hX dX7_isSame_403 (by decide) ?_
                refine jr_iinc hX dX7_isSame_435 rfl (by first | with_reducible exact jj_inc _ | with_reducible exact jj_inc1 _) rfl ?_
                refine jr_goto (tgt := 379) hX dX7_isSame_438 (by decide) ?_
                rw [sm_1 (show q_ba 0 (nI m) I j = 0 from if_neg (fun q => c_400 q.1)), sm_1 (show q_co 0 (nI m) I j = 0 from if_neg c_400), Int32.add_zero, Int32.add_zero] at ih
                exact jr_forget (fun _ _ h => h) (fun i v h => by rcases i with _ | _ | _ | _ | _ | _ | _ | _ | _ | _ | _ | _ | _ | _ | _ | _ | _ | _ | i <;> first | exact h | exact absurd h (by simp)) (ih)
          exact m2 0 (Nat.zero_le _)
      exact m1 0 (Nat.zero_le _) _ _ _ _ hly hsy hmi hq
    · intro n1 K1 P1 J hly hsy hmi hq
      have g0 := sy_lt hsy (t := 0) sv_0
      refine jr_iload hX dX7_isSame_20 rfl ?_
      refine jr_iload_n hX dX7_isSame_22 rfl ?_
      refine jr_icmp_ge (tgt := 334) hX dX7_isSame_23 (by decide) (fun c_23 => absurd c_23 (nI_ge (by assumption) (by omega))) (fun c_23 => ?_)
      refine jr_aload_n hX dX7_isSame_26 rfl ?_
      refine jr_getr hX kF_X7_14 rfl (sy_k0 hsy) (sy_p0_1 hsy) dX7_isSame_27 ?_
      refine jr_iload hX dX7_isSame_30 rfl ?_
      refine jr_aald (t := 15) hX (by decide) (sy_k5 hsy) rfl (by omega) (sy_qH hsy (by omega)) dX7_isSame_32 ?_
      refine jr_astore hX dX7_isSame_33 rfl ?_
      refine jr_bipush (v := 8) hX dX7_isSame_35 (by decide) ?_
      refine jr_newI hX kA_int (show _ = nI 8 from rfl) (by omega) dX7_isSame_37 ⟨by dsimp only; omega, by dsimp only; omega⟩ ?_
      have hsy0 := hsy
      have hly : ly (jj_uK K1 n1 (10, 8)) P1 := ly_up hly (fun a ha => by unfold jj_uK; rw [if_neg (by omega)]) (fun a ha => rfl)
      have hsy : sy A H M B N (n1 + 1) (jj_uK K1 n1 (10, 8)) P1 := sy_up hsy (by omega) (fun a ha => by unfold jj_uK; rw [if_neg (by omega)]) (fun a ha => rfl)
      have gH := (sy_lt hsy0 (t := 10 + h) (sv_H hsy0.1 (by assumption))).2
      have fh := hmi.2.2.2.2.2.1 h (by assumption)
      refine jr_dup hX dX7_isSame_39 rfl ?_
      refine jr_iconst (v := 0) hX dX7_isSame_40 (by decide) ?_
      refine jr_aload hX dX7_isSame_41 rfl ?_
      refine jr_iconst (v := 0) hX dX7_isSame_43 (by decide) ?_
      refine jr_iald hX (by first | with_reducible assumption | with_reducible exact sy_k0 hsy | with_reducible exact sy_k1 hsy | with_reducible exact sy_k2 hsy | with_reducible exact sy_k3 hsy | with_reducible exact sy_k4 hsy | with_reducible exact sy_k5 hsy | with_reducible exact sy_k6 hsy | with_reducible exact sy_k7 hsy | with_reducible exact sy_k8 hsy | with_reducible exact sy_kH hsy (by first | assumption | omega) | with_reducible exact sy_kB hsy (by first | assumption | omega) | with_reducible exact sy_kG hsy (by first | assumption | omega) | with_reducible exact sy_kD hsy (by first | assumption | omega) | with_reducible exact sy_kM hsy (by first | assumption | omega) | with_reducible exact sy_kS hsy (by first | assumption | omega) (by first | assumption | omega)) (show _ = nI 0 from rfl) (by omega) dX7_isSame_44 ?_
      rw [jj_uR_ne (by omega), fh.1]
      refine jr_iast hX (by unfold jj_uK; rw [if_pos rfl]) (by omega) (show _ = nI 0 from rfl) (by omega) dX7_isSame_45 ?_
      refine jr_dup hX dX7_isSame_46 rfl ?_
      refine jr_iconst (v := 1) hX dX7_isSame_47 (by decide) ?_
      refine jr_aload_n hX dX7_isSame_48 rfl ?_
      refine jr_iload hX dX7_isSame_49 rfl ?_
      refine jr_iconst (v := 1) hX dX7_isSame_51 (by decide) ?_
      refine jr_ret (jr_runV hX hSt kM_X7_101 (s_inn (jj_fl hX) hsy) rfl rfl (sy_k0 hsy) ⟨_, _, rfl, by decide⟩ dX7_isSame_52 rfl ⟨by simp only [jj_N]; omega, by simp only [jj_N]; omega⟩ rfl) ?_
      rw [s_in_y (ms_f hsy0 hmi (fun a ha => by rw [jj_u_ne (by omega), jj_uR_ne (by omega)]))]
      refine jr_iast hX (by unfold jj_uK; rw [if_pos rfl]) (by omega) (show _ = nI 1 from rfl) (by omega) dX7_isSame_55 ?_
      refine jr_dup hX dX7_isSame_56 rfl ?_
      refine jr_iconst (v := 2) hX dX7_isSame_57 (by decide) ?_
      refine jr_aload_n hX dX7_isSame_58 rfl ?_
      refine jr_iload hX dX7_isSame_59 rfl ?_
      refine jr_iconst (v := 0) hX dX7_isSame_61 (by decide) ?_
      refine jr_ret (jr_runV hX hSt kM_X7_101 (s_inn (jj_fl hX) hsy) rfl rfl (sy_k0 hsy) ⟨_, _, rfl, by decide⟩ dX7_isSame_62 rfl ⟨by simp only [jj_N]; omega, by simp only [jj_N]; omega⟩ rfl) ?_
      rw [s_in_y (ms_f hsy0 hmi (fun a ha => by rw [jj_u_ne (by omega), jj_u_ne (by omega), jj_uR_ne (by omega)]))]
      refine jr_aload_n hX dX7_isSame_65 rfl ?_
      refine jr_iload hX dX7_isSame_66 rfl ?_
      refine jr_iconst (v := 1) hX dX7_isSame_68 (by decide) ?_
      refine jr_ret (jr_runV hX hSt kM_X7_101 (s_inn (jj_fl hX) hsy) rfl rfl (sy_k0 hsy) ⟨_, _, rfl, by decide⟩ dX7_isSame_69 rfl ⟨by simp only [jj_N]; omega, by simp only [jj_N]; omega⟩ rfl) ?_
      rw [s_in_y (ms_f hsy0 hmi (fun a ha => by rw [jj_u_ne (by omega), jj_u_ne (by omega), jj_uR_ne (by omega)]))]
      refine jr_iadd hX dX7_isSame_72 ?_
      rw [Int32.add_comm (sm (q_bl 0 (nI h) 0 I) B)]
      refine jr_iast hX (by unfold jj_uK; rw [if_pos rfl]) (by omega) (show _ = nI 2 from rfl) (by omega) dX7_isSame_73 ?_
      refine jr_dup hX dX7_isSame_74 rfl ?_
      refine jr_iconst (v := 3) hX dX7_isSame_75 (by decide) ?_
      refine jr_aload_n hX dX7_isSame_76 rfl ?_
      refine jr_iload hX dX7_isSame_77 rfl ?_
      refine jr_ret (jr_runV hX hSt kM_X7_76 (s_around (jj_fl hX) hsy (by assumption)) rfl rfl (sy_k0 hsy) ⟨_, _, rfl, by decide⟩ dX7_isSame_79 rfl ⟨by simp only [jj_N]; omega, by simp only [jj_N]; omega⟩ rfl) ?_
      rw [s_ar_ia (ms_f hsy0 hmi (fun a ha => by rw [jj_u_ne (by omega), jj_u_ne (by omega), jj_u_ne (by omega), jj_uR_ne (by omega)])) (by assumption)]
      refine jr_iast hX (by unfold jj_uK; rw [if_pos rfl]) (by omega) (show _ = nI 3 from rfl) (by omega) dX7_isSame_82 ?_
      refine jr_dup hX dX7_isSame_83 rfl ?_
      refine jr_iconst (v := 4) hX dX7_isSame_84 (by decide) ?_
      refine jr_aload hX dX7_isSame_85 rfl ?_
      refine jr_iconst (v := 1) hX dX7_isSame_87 (by decide) ?_
      refine jr_iald hX (by first | with_reducible assumption | with_reducible exact sy_k0 hsy | with_reducible exact sy_k1 hsy | with_reducible exact sy_k2 hsy | with_reducible exact sy_k3 hsy | with_reducible exact sy_k4 hsy | with_reducible exact sy_k5 hsy | with_reducible exact sy_k6 hsy | with_reducible exact sy_k7 hsy | with_reducible exact sy_k8 hsy | with_reducible exact sy_kH hsy (by first | assumption | omega) | with_reducible exact sy_kB hsy (by first | assumption | omega) | with_reducible exact sy_kG hsy (by first | assumption | omega) | with_reducible exact sy_kD hsy (by first | assumption | omega) | with_reducible exact sy_kM hsy (by first | assumption | omega) | with_reducible exact sy_kS hsy (by first | assumption | omega) (by first | assumption | omega)) (show _ = nI (1 + 0) from rfl) (by omega) dX7_isSame_88 ?_
      rw [jj_u_ne (by omega), jj_u_ne (by omega), jj_u_ne (by omega), jj_u_ne (by omega), jj_uR_ne (by omega), fh.2 0 (by decide), show 4 * h + 0 = h * 4 + (4 - 4) by omega]
      refine jr_iast hX (by unfold jj_uK; rw [if_pos rfl]) (by omega) (show _ = nI 4 from rfl) (by omega) dX7_isSame_89 ?_
      refine jr_dup hX dX7_isSame_90 rfl ?_
      refine jr_iconst (v := 5) hX dX7_isSame_91 (by decide) ?_
      refine jr_aload hX dX7_isSame_92 rfl ?_
      refine jr_iconst (v := 2) hX dX7_isSame_94 (by decide) ?_
      refine jr_iald hX (by first | with_reducible assumption | with_reducible exact sy_k0 hsy | with_reducible exact sy_k1 hsy | with_reducible exact sy_k2 hsy | with_reducible exact sy_k3 hsy | with_reducible exact sy_k4 hsy | with_reducible exact sy_k5 hsy | with_reducible exact sy_k6 hsy | with_reducible exact sy_k7 hsy | with_reducible exact sy_k8 hsy | with_reducible exact sy_kH hsy (by first | assumption | omega) | with_reducible exact sy_kB hsy (by first | assumption | omega) | with_reducible exact sy_kG hsy (by first | assumption | omega) | with_reducible exact sy_kD hsy (by first | assumption | omega) | with_reducible exact sy_kM hsy (by first | assumption | omega) | with_reducible exact sy_kS hsy (by first | assumption | omega) (by first | assumption | omega)) (show _ = nI (1 + 1) from rfl) (by omega) dX7_isSame_95 ?_
      rw [jj_u_ne (by omega), jj_u_ne (by omega), jj_u_ne (by omega), jj_u_ne (by omega), jj_u_ne (by omega), jj_uR_ne (by omega), fh.2 1 (by decide), show 4 * h + 1 = h * 4 + (5 - 4) by omega]
      refine jr_iast hX (by unfold jj_uK; rw [if_pos rfl]) (by omega) (show _ = nI 5 from rfl) (by omega) dX7_isSame_96 ?_
      refine jr_dup hX dX7_isSame_97 rfl ?_
      refine jr_bipush (v := 6) hX dX7_isSame_98 (by decide) ?_
      refine jr_aload hX dX7_isSame_100 rfl ?_
      refine jr_iconst (v := 3) hX dX7_isSame_102 (by decide) ?_
      refine jr_iald hX (by first | with_reducible assumption | with_reducible exact sy_k0 hsy | with_reducible exact sy_k1 hsy | with_reducible exact sy_k2 hsy | with_reducible exact sy_k3 hsy | with_reducible exact sy_k4 hsy | with_reducible exact sy_k5 hsy | with_reducible exact sy_k6 hsy | with_reducible exact sy_k7 hsy | with_reducible exact sy_k8 hsy | with_reducible exact sy_kH hsy (by first | assumption | omega) | with_reducible exact sy_kB hsy (by first | assumption | omega) | with_reducible exact sy_kG hsy (by first | assumption | omega) | with_reducible exact sy_kD hsy (by first | assumption | omega) | with_reducible exact sy_kM hsy (by first | assumption | omega) | with_reducible exact sy_kS hsy (by first | assumption | omega) (by first | assumption | omega)) (show _ = nI (1 + 2) from rfl) (by omega) dX7_isSame_103 ?_
      rw [jj_u_ne (by omega), jj_u_ne (by omega), jj_u_ne (by omega), jj_u_ne (by omega), jj_u_ne (by omega), jj_u_ne (by omega), jj_uR_ne (by omega), fh.2 2 (by decide), show 4 * h + 2 = h * 4 + (6 - 4) by omega]
      refine jr_iast hX (by unfold jj_uK; rw [if_pos rfl]) (by omega) (show _ = nI 6 from rfl) (by omega) dX7_isSame_104 ?_
      refine jr_dup hX dX7_isSame_105 rfl ?_
      refine jr_bipush (v := 7) hX dX7_isSame_106 (by decide) ?_
      refine jr_aload hX dX7_isSame_108 rfl ?_
      refine jr_iconst (v := 4) hX dX7_isSame_110 (by decide) ?_
      refine jr_iald hX (by first | with_reducible assumption | with_reducible exact sy_k0 hsy | with_reducible exact sy_k1 hsy | with_reducible exact sy_k2 hsy | with_reducible exact sy_k3 hsy | with_reducible exact sy_k4 hsy | with_reducible exact sy_k5 hsy | with_reducible exact sy_k6 hsy | with_reducible exact sy_k7 hsy | with_reducible exact sy_k8 hsy | with_reducible exact sy_kH hsy (by first | assumption | omega) | with_reducible exact sy_kB hsy (by first | assumption | omega) | with_reducible exact sy_kG hsy (by first | assumption | omega) | with_reducible exact sy_kD hsy (by first | assumption | omega) | with_reducible exact sy_kM hsy (by first | assumption | omega) | with_reducible exact sy_kS hsy (by first | assumption | omega) (by first | assumption | omega)) (show _ = nI (1 + 3) from rfl) (by omega) dX7_isSame_111 ?_
      rw [jj_u_ne (by omega), jj_u_ne (by omega), jj_u_ne (by omega), jj_u_ne (by omega), jj_u_ne (by omega), jj_u_ne (by omega), jj_u_ne (by omega), jj_uR_ne (by omega), fh.2 3 (by decide), show 4 * h + 3 = h * 4 + (7 - 4) by omega]
      refine jr_iast hX (by unfold jj_uK; rw [if_pos rfl]) (by omega) (show _ = nI 7 from rfl) (by omega) dX7_isSame_112 ?_
      refine jr_astore hX dX7_isSame_113 rfl ?_
      refine jr_I (I1 := s_row J n1 8 (q_hf h H B I)) rfl ?_
      obtain ⟨hT, hF⟩ := s_row_p (J := J) (n := n1) (f := q_hf h H B I) (m := 8)
      generalize s_row J n1 8 (q_hf h H B I) = J2 at hT hF
      have hmi2 := ms_f hsy0 hmi (fun a ha => hF a (by omega))
      have hq2 : eqA J2 I := fun a ha => (hF a (by omega)).trans (hq a ha)
      refine jr_iconst (v := 0) hX dX7_isSame_115 (by decide) ?_
      refine jr_istore hX dX7_isSame_116 rfl ?_
      have h2 : ∀ w, w ≤ 8 → jj_J X D 18 (h + 1) (8 * h + 8) (jj_MQ X D { frames := 9, cells := 22, slots := 204, locals := 155 } (fun r n1 K1 I1 P1 G1 => G1 = G ∧ r = some (.int 1)) jj_noX) (n1 + 1) (jj_uK K1 n1 (10, 8)) (J2) (P1) (G) 118 [some (.ref (A 0)), some (.ref (1)), some (.int (nI H)), some (.int (0)), some (.int (0)), some (.int (0)), some (.int (sm (q_ol 0 I) (h - 1))), some (.int (nI h)), some (.ref (A (10 + h))), some (.ref (n1)), some (.int (nI w)), none, none, none, none, none, none, none] [] := by
        refine jj_for (8) _ ?_ (fun w hw ih => ?_)
        · refine jr_iload hX dX7_isSame_118 rfl ?_
          refine jr_bipush (v := 8) hX dX7_isSame_120 (by decide) ?_
          refine jr_icmp_ge (tgt := 149) hX dX7_isSame_122 (by decide) (fun c_122 => ?_) (fun c_122 => absurd (by decide) c_122)
          refine jr_iload hX dX7_isSame_149 rfl ?_
          refine jr_if_ne (tgt := 157) hX dX7_isSame_151 (by decide) (fun c_151 => ?_) (fun c_151 => ?_)
          · have hnz : h ≠ 0 := fun e => c_151 (by rw [e]; rfl)
            obtain ⟨l, rfl⟩ : ∃ l, h = l + 1 := ⟨h - 1, by omega⟩
            have days := hmi2.2.2.1 l (by assumption)
            have icel := hmi2.2.2.2.1 l (by assumption)
            refine jr_iconst (v := 0) hX dX7_isSame_157 (by decide) ?_
            refine jr_istore hX dX7_isSame_158 rfl ?_
            refine jr_aload_n hX dX7_isSame_160 rfl ?_
            refine jr_getr hX kF_X7_34 rfl (sy_k0 hsy) (sy_p0_6 hsy) dX7_isSame_161 ?_
            refine jr_astore hX dX7_isSame_164 rfl ?_
            refine jr_aload hX dX7_isSame_166 rfl ?_
            refine jr_alen (t := 17) hX (by decide) (sy_k6 hsy) dX7_isSame_168 ?_
            refine jr_istore hX dX7_isSame_169 rfl ?_
            refine jr_iconst (v := 0) hX dX7_isSame_171 (by decide) ?_
            refine jr_istore hX dX7_isSame_172 rfl ?_
            have h3 : ∀ j, j ≤ B → jj_J X D 18 (l + 1 + 1) (8 * (l + 1) + 8) (jj_MQ X D { frames := 9, cells := 22, slots := 204, locals := 155 } (fun r n1 K1 I1 P1 G1 => G1 = G ∧ r = some (.int 1)) jj_noX) (n1 + 1) (jj_uK K1 n1 (10, 8)) (J2) (P1) (G) 174 [some (.ref (A 0)), some (.ref (1)), some (.int (nI H)), some (.int (0)), some (.int (0)), some (.int (0)), some (.int (sm (q_ol 0 I) (l + 1 - 1))), some (.int (nI (l + 1))), some (.ref (A (10 + (l + 1)))), some (.ref (n1)), some (.int (sm (q_bo 0 (nI l) I) j)), some (.ref (A 6)), some (.int (nI B)), some (.int (nI j)), none, none, none, none] [] := by
              refine jj_for (B) _ ?_ (fun j hj ih => ?_)
              · refine jr_iload hX dX7_isSame_174 rfl ?_
                refine jr_iload hX dX7_isSame_176 rfl ?_
                refine jr_icmp_ge (tgt := 223) hX dX7_isSame_178 (by decide) (fun c_178 => ?_) (fun c_178 => absurd (nI_le (Nat.le_refl _) (by omega)) c_178)
                refine jr_aload_n hX dX7_isSame_223 rfl ?_
                refine jr_iload hX dX7_isSame_224 rfl ?_
                refine jr_iconst (v := 1) hX dX7_isSame_226 (by decide) ?_
                refine jr_isub hX dX7_isSame_227 ?_
                rw [nI_pred]
                refine jr_iconst (v := 0) hX dX7_isSame_228 (by decide) ?_
                refine jr_ret (jr_runV hX hSt kM_X7_110 (c_leg_ok (jj_fl hX) hly (eqA_sf hq2 htc.1) (h := l) (t := 0) (by omega) (by decide)) rfl rfl (ly_kI hly) ⟨_, _, rfl, by decide⟩ dX7_isSame_229 rfl ⟨by simp only [jj_N]; omega, by simp only [jj_N]; omega⟩ rfl) ?_
                rw [lf_e (eqT_A hq2) hB10]
                refine jr_aload_n hX dX7_isSame_232 rfl ?_
                refine jr_getr hX kF_X7_18 rfl (sy_k0 hsy) (sy_p0_2 hsy) dX7_isSame_233 ?_
                refine jr_iload hX dX7_isSame_236 rfl ?_
                refine jr_iald hX (by first | with_reducible assumption | with_reducible exact sy_k0 hsy | with_reducible exact sy_k1 hsy | with_reducible exact sy_k2 hsy | with_reducible exact sy_k3 hsy | with_reducible exact sy_k4 hsy | with_reducible exact sy_k5 hsy | with_reducible exact sy_k6 hsy | with_reducible exact sy_k7 hsy | with_reducible exact sy_k8 hsy | with_reducible exact sy_kH hsy (by first | assumption | omega) | with_reducible exact sy_kB hsy (by first | assumption | omega) | with_reducible exact sy_kG hsy (by first | assumption | omega) | with_reducible exact sy_kD hsy (by first | assumption | omega) | with_reducible exact sy_kM hsy (by first | assumption | omega) | with_reducible exact sy_kS hsy (by first | assumption | omega) (by first | assumption | omega)) rfl (by omega) dX7_isSame_238 ?_
                rw [days]
                refine jr_icmp_ne (tgt := 304) hX dX7_isSame_239 (by decide) (fun c_239 => absurd c_239 (show ¬ ¬ _ = _ from fun q => q rfl)) (fun c_239 => ?_)
                refine jr_aload_n hX dX7_isSame_242 rfl ?_
                refine jr_iload hX dX7_isSame_243 rfl ?_
                refine jr_iconst (v := 1) hX dX7_isSame_245 (by decide) ?_
                refine jr_isub hX dX7_isSame_246 ?_
                rw [nI_pred]
                refine jr_iconst (v := 1) hX dX7_isSame_247 (by decide) ?_
                refine jr_ret (jr_runV hX hSt kM_X7_110 (c_leg_ok (jj_fl hX) hly (eqA_sf hq2 htc.1) (h := l) (t := 1) (by omega) (by decide)) rfl rfl (ly_kI hly) ⟨_, _, rfl, by decide⟩ dX7_isSame_248 rfl ⟨by simp only [jj_N]; omega, by simp only [jj_N]; omega⟩ rfl) ?_
                rw [lf_e (eqT_A hq2) hB10]
                refine jr_aload_n hX dX7_isSame_251 rfl ?_
                refine jr_getr hX kF_X7_21 rfl (sy_k0 hsy) (sy_p0_3 hsy) dX7_isSame_252 ?_
                refine jr_iload hX dX7_isSame_255 rfl ?_
                refine jr_iald hX (by first | with_reducible assumption | with_reducible exact sy_k0 hsy | with_reducible exact sy_k1 hsy | with_reducible exact sy_k2 hsy | with_reducible exact sy_k3 hsy | with_reducible exact sy_k4 hsy | with_reducible exact sy_k5 hsy | with_reducible exact sy_k6 hsy | with_reducible exact sy_k7 hsy | with_reducible exact sy_k8 hsy | with_reducible exact sy_kH hsy (by first | assumption | omega) | with_reducible exact sy_kB hsy (by first | assumption | omega) | with_reducible exact sy_kG hsy (by first | assumption | omega) | with_reducible exact sy_kD hsy (by first | assumption | omega) | with_reducible exact sy_kM hsy (by first | assumption | omega) | with_reducible exact sy_kS hsy (by first | assumption | omega) (by first | assumption | omega)) rfl (by omega) dX7_isSame_257 ?_
                rw [icel]
                refine jr_icmp_ne (tgt := 304) hX dX7_isSame_258 (by decide) (fun c_258 => absurd c_258 (show ¬ ¬ _ = _ from fun q => q rfl)) (fun c_258 => ?_)
                refine jr_aload_n hX dX7_isSame_261 rfl ?_
                refine jr_iload hX dX7_isSame_262 rfl ?_
                refine jr_iconst (v := 1) hX dX7_isSame_264 (by decide) ?_
                refine jr_isub hX dX7_isSame_265 ?_
                rw [nI_pred]
                refine jr_iconst (v := 2) hX dX7_isSame_266 (by decide) ?_
                refine jr_ret (jr_runV hX hSt kM_X7_110 (c_leg_ok (jj_fl hX) hly (eqA_sf hq2 htc.1) (h := l) (t := 2) (by omega) (by decide)) rfl rfl (ly_kI hly) ⟨_, _, rfl, by decide⟩ dX7_isSame_267 rfl ⟨by simp only [jj_N]; omega, by simp only [jj_N]; omega⟩ rfl) ?_
                rw [lf_e (eqT_A hq2) hB10]
                refine jr_aload_n hX dX7_isSame_270 rfl ?_
                refine jr_getr hX kF_X7_21 rfl (sy_k0 hsy) (sy_p0_3 hsy) dX7_isSame_271 ?_
                refine jr_iload hX dX7_isSame_274 rfl ?_
                refine jr_iald hX (by first | with_reducible assumption | with_reducible exact sy_k0 hsy | with_reducible exact sy_k1 hsy | with_reducible exact sy_k2 hsy | with_reducible exact sy_k3 hsy | with_reducible exact sy_k4 hsy | with_reducible exact sy_k5 hsy | with_reducible exact sy_k6 hsy | with_reducible exact sy_k7 hsy | with_reducible exact sy_k8 hsy | with_reducible exact sy_kH hsy (by first | assumption | omega) | with_reducible exact sy_kB hsy (by first | assumption | omega) | with_reducible exact sy_kG hsy (by first | assumption | omega) | with_reducible exact sy_kD hsy (by first | assumption | omega) | with_reducible exact sy_kM hsy (by first | assumption | omega) | with_reducible exact sy_kS hsy (by first | assumption | omega) (by first | assumption | omega)) rfl (by omega) dX7_isSame_276 ?_
                rw [icel]
                refine jr_bipush (v := 11) hX dX7_isSame_277 (by decide) ?_
                refine jr_icmp_ge (tgt := 286) hX dX7_isSame_279 (by decide) (fun c_279 => ?_) (fun c_279 => ?_)
                · have hol : q_ol 0 I l = 0 := if_neg (fun q => absurd c_279 (Int32.not_le.mpr (i32_11.mpr q)))
                  refine jr_iconst (v := 0) hX dX7_isSame_286 (by decide) ?_
                  refine jr_icmp_ne (tgt := 304) hX dX7_isSame_287 (by decide) (fun c_287 => absurd c_287 (show ¬ ¬ _ = _ from fun q => q hol)) (fun c_287 => ?_)
                  refine jr_aload_n hX dX7_isSame_290 rfl ?_
                  refine jr_iload hX dX7_isSame_291 rfl ?_
                  refine jr_iconst (v := 1) hX dX7_isSame_293 (by decide) ?_
                  refine jr_isub hX dX7_isSame_294 ?_
                  rw [nI_pred]
                  refine jr_iconst (v := 3) hX dX7_isSame_295 (by decide) ?_
                  refine jr_ret (jr_runV hX hSt kM_X7_110 (c_leg_ok (jj_fl hX) hly (eqA_sf hq2 htc.1) (h := l) (t := 3) (by omega) (by decide)) rfl rfl (ly_kI hly) ⟨_, _, rfl, by decide⟩ dX7_isSame_296 rfl ⟨by simp only [jj_N]; omega, by simp only [jj_N]; omega⟩ rfl) ?_
                  rw [lf_e (eqT_A hq2) hB10]
                  refine jr_iload hX dX7_isSame_299 rfl ?_
                  refine jr_icmp_eq (tgt := 306) hX dX7_isSame_301 (by decide) (fun c_301 => ?_) (fun c_301 => absurd rfl c_301)
                  refine jr_iload hX dX7_isSame_306 rfl ?_
                  refine jr_aload_n hX dX7_isSame_308 rfl ?_
                  refine jr_getr hX kF_X7_21 rfl (sy_k0 hsy) (sy_p0_3 hsy) dX7_isSame_309 ?_
                  refine jr_iload hX dX7_isSame_312 rfl ?_
                  refine jr_iald hX (by first | with_reducible assumption | with_reducible exact sy_k0 hsy | with_reducible exact sy_k1 hsy | with_reducible exact sy_k2 hsy | with_reducible exact sy_k3 hsy | with_reducible exact sy_k4 hsy | with_reducible exact sy_k5 hsy | with_reducible exact sy_k6 hsy | with_reducible exact sy_k7 hsy | with_reducible exact sy_k8 hsy | with_reducible exact sy_kH hsy (by first | assumption | omega) | with_reducible exact sy_kB hsy (by first | assumption | omega) | with_reducible exact sy_kG hsy (by first | assumption | omega) | with_reducible exact sy_kD hsy (by first | assumption | omega) | with_reducible exact sy_kM hsy (by first | assumption | omega) | with_reducible exact sy_kS hsy (by first | assumption | omega) (by first | assumption | omega)) rfl (by omega) dX7_isSame_314 ?_
                  rw [icel]
                  refine jr_bipush (v := 11) hX dX7_isSame_315 (by decide) ?_
                  refine jr_icmp_ge (tgt := 324) hX dX7_isSame_317 (by decide) (fun c_317 => ?_) (fun c_317 => absurd c_279 c_317)
                  refine jr_iconst (v := 0) hX dX7_isSame_324 (by decide) ?_
                  refine jr_iadd hX dX7_isSame_325 ?_
                  refine jr_istore hX dX7_isSame_326 rfl ?_
                  refine jr_iinc hX dX7_isSame_328 rfl (by first | with_reducible exact jj_inc _ | with_reducible exact jj_inc1 _) rfl ?_
                  refine jr_goto (tgt := 20) hX dX7_isSame_331 (by decide) ?_
                  have e : sm (q_ol 0 I) (l + 1 + 1 - 1) = sm (q_ol 0 I) (l + 1 - 1) + 0 := sm_1 hol
                  rw [e] at ih
                  exact jr_forget (fun _ _ h => h) (fun i v h => by rcases i with _ | _ | _ | _ | _ | _ | _ | _ | _ | _ | _ | _ | _ | _ | _ | _ | _ | _ | i <;> first | exact h | exact absurd h (by simp)) (ih _ _ _ _ hly hsy hmi2 hq2)
                · have hol : q_ol 0 I l = 1 := if_pos (i32_11.mp (Int32.not_le.mp c_279))
                  refine jr_iconst (v := 1) hX dX7_isSame_282 (by decide) ?_
                  refine jr_goto (tgt := 287) hX dX7_isSame_283 (by decide) ?_
                  refine jr_icmp_ne (tgt := 304) hX dX7_isSame_287 (by decide) (fun c_287 => absurd c_287 (show ¬ ¬ _ = _ from fun q => q hol)) (fun c_287 => ?_)
                  refine jr_aload_n hX dX7_isSame_290 rfl ?_
                  refine jr_iload hX dX7_isSame_291 rfl ?_
                  refine jr_iconst (v := 1) hX dX7_isSame_293 (by decide) ?_
                  refine jr_isub hX dX7_isSame_294 ?_
                  rw [nI_pred]
                  refine jr_iconst (v := 3) hX dX7_isSame_295 (by decide) ?_
                  refine jr_ret (jr_runV hX hSt kM_X7_110 (c_leg_ok (jj_fl hX) hly (eqA_sf hq2 htc.1) (h := l) (t := 3) (by omega) (by decide)) rfl rfl (ly_kI hly) ⟨_, _, rfl, by decide⟩ dX7_isSame_296 rfl ⟨by simp only [jj_N]; omega, by simp only [jj_N]; omega⟩ rfl) ?_
                  rw [lf_e (eqT_A hq2) hB10]
                  refine jr_iload hX dX7_isSame_299 rfl ?_
                  refine jr_icmp_eq (tgt := 306) hX dX7_isSame_301 (by decide) (fun c_301 => ?_) (fun c_301 => absurd rfl c_301)
                  refine jr_iload hX dX7_isSame_306 rfl ?_
                  refine jr_aload_n hX dX7_isSame_308 rfl ?_
                  refine jr_getr hX kF_X7_21 rfl (sy_k0 hsy) (sy_p0_3 hsy) dX7_isSame_309 ?_
                  refine jr_iload hX dX7_isSame_312 rfl ?_
                  refine jr_iald hX (by first | with_reducible assumption | with_reducible exact sy_k0 hsy | with_reducible exact sy_k1 hsy | with_reducible exact sy_k2 hsy | with_reducible exact sy_k3 hsy | with_reducible exact sy_k4 hsy | with_reducible exact sy_k5 hsy | with_reducible exact sy_k6 hsy | with_reducible exact sy_k7 hsy | with_reducible exact sy_k8 hsy | with_reducible exact sy_kH hsy (by first | assumption | omega) | with_reducible exact sy_kB hsy (by first | assumption | omega) | with_reducible exact sy_kG hsy (by first | assumption | omega) | with_reducible exact sy_kD hsy (by first | assumption | omega) | with_reducible exact sy_kM hsy (by first | assumption | omega) | with_reducible exact sy_kS hsy (by first | assumption | omega) (by first | assumption | omega)) rfl (by omega) dX7_isSame_314 ?_
                  rw [icel]
                  refine jr_bipush (v := 11) hX dX7_isSame_315 (by decide) ?_
                  refine jr_icmp_ge (tgt := 324) hX dX7_isSame_317 (by decide) (fun c_317 => absurd c_317 c_279) (fun c_317 => ?_)
                  refine jr_iconst (v := 1) hX dX7_isSame_320 (by decide) ?_
                  refine jr_goto (tgt := 325) hX dX7_isSame_321 (by decide) ?_
                  refine jr_iadd hX dX7_isSame_325 ?_
                  refine jr_istore hX dX7_isSame_326 rfl ?_
                  refine jr_iinc hX dX7_isSame_328 rfl (by first | with_reducible exact jj_inc _ | with_reducible exact jj_inc1 _) rfl ?_
                  refine jr_goto (tgt := 20) hX dX7_isSame_331 (by decide) ?_
                  have e : sm (q_ol 0 I) (l + 1 + 1 - 1) = sm (q_ol 0 I) (l + 1 - 1) + 1 := sm_1 hol
                  rw [e] at ih
                  exact jr_forget (fun _ _ h => h) (fun i v h => by rcases i with _ | _ | _ | _ | _ | _ | _ | _ | _ | _ | _ | _ | _ | _ | _ | _ | _ | _ | i <;> first | exact h | exact absurd h (by simp)) (ih _ _ _ _ hly hsy hmi2 hq2)
              · refine jr_iload hX dX7_isSame_174 rfl ?_
                refine jr_iload hX dX7_isSame_176 rfl ?_
                refine jr_icmp_ge (tgt := 223) hX dX7_isSame_178 (by decide) (fun c_178 => absurd c_178 (nI_ge (by assumption) (by omega))) (fun c_178 => ?_)
                refine jr_aload hX dX7_isSame_181 rfl ?_
                refine jr_iload hX dX7_isSame_183 rfl ?_
                refine jr_aald (t := 17) hX (by decide) (sy_k6 hsy) rfl (by omega) (sy_qB hsy (by omega)) dX7_isSame_185 ?_
                obtain ⟨r0, r1, r2, r3, r4, r5, r6, r7, r8⟩ := hmi2.2.2.2.2.2.2.1 j (by assumption)
                refine jr_astore hX dX7_isSame_186 rfl ?_
                refine jr_iload hX dX7_isSame_188 rfl ?_
                refine jr_aload hX dX7_isSame_190 rfl ?_
                refine jr_geti hX kF_X7_67 rfl (sy_kB hsy (by first | assumption | omega)) dX7_isSame_192 ?_
                rw [r3]
                refine jr_iconst (v := 2) hX dX7_isSame_195 (by decide) ?_
                refine jr_icmp_ne (tgt := 213) hX dX7_isSame_196 (by decide) (fun c_196 => ?_) (fun c_196 => ?_)
                · refine jr_iconst (v := 0) hX dX7_isSame_213 (by decide) ?_
                  refine jr_iadd hX dX7_isSame_214 ?_
                  refine jr_istore hX dX7_isSame_215 rfl ?_
                  refine jr_iinc hX dX7_isSame_217 rfl (by first | with_reducible exact jj_inc _ | with_reducible exact jj_inc1 _) rfl ?_
                  refine jr_goto (tgt := 174) hX dX7_isSame_220 (by decide) ?_
                  rw [sm_1 (show q_bo 0 (nI l) I j = 0 from if_neg (fun q => c_196 q.1))] at ih
                  exact jr_forget (fun _ _ h => h) (fun i v h => by rcases i with _ | _ | _ | _ | _ | _ | _ | _ | _ | _ | _ | _ | _ | _ | _ | _ | _ | _ | i <;> first | exact h | exact absurd h (by simp)) (ih)
                · refine jr_aload hX dX7_isSame_199 rfl ?_
                  refine jr_geti hX kF_X7_70 rfl (sy_kB hsy (by first | assumption | omega)) dX7_isSame_201 ?_
                  rw [r7 c_196]
                  refine jr_iload hX dX7_isSame_204 rfl ?_
                  refine jr_icmp_ne (tgt := 213) hX dX7_isSame_206 (by decide) (fun c_206 => ?_) (fun c_206 => ?_)
                  · refine jr_iconst (v := 0) hX dX7_isSame_213 (by decide) ?_
                    refine jr_iadd hX dX7_isSame_214 ?_
                    refine jr_istore hX dX7_isSame_215 rfl ?_
                    refine jr_iinc hX dX7_isSame_217 rfl (by first | with_reducible exact jj_inc _ | with_reducible exact jj_inc1 _) rfl ?_
                    refine jr_goto (tgt := 174) hX dX7_isSame_220 (by decide) ?_
                    rw [sm_1 (show q_bo 0 (nI l) I j = 0 from if_neg (fun q => c_206 (by rw [q.2]; exact jj_inc l)))] at ih
                    exact jr_forget (fun _ _ h => h) (fun i v h => by rcases i with _ | _ | _ | _ | _ | _ | _ | _ | _ | _ | _ | _ | _ | _ | _ | _ | _ | _ | i <;> first | exact h | exact absurd h (by simp)) (ih)
                  · refine jr_iconst (v := 1) hX dX7_isSame_209 (by decide) ?_
                    refine jr_goto (tgt := 214) hX dX7_isSame_210 (by decide) ?_
                    refine jr_iadd hX dX7_isSame_214 ?_
                    refine jr_istore hX dX7_isSame_215 rfl ?_
                    refine jr_iinc hX dX7_isSame_217 rfl (by first | with_reducible exact jj_inc _ | with_reducible exact jj_inc1 _) rfl ?_
                    refine jr_goto (tgt := 174) hX dX7_isSame_220 (by decide) ?_
                    rw [sm_1 (show q_bo 0 (nI l) I j = 1 from if_pos ⟨c_196, i_x1 c_206⟩)] at ih
                    exact jr_forget (fun _ _ h => h) (fun i v h => by rcases i with _ | _ | _ | _ | _ | _ | _ | _ | _ | _ | _ | _ | _ | _ | _ | _ | _ | _ | i <;> first | exact h | exact absurd h (by simp)) (ih)
            exact h3 0 (Nat.zero_le _)
          · have hz : h = 0 := (nI_z (by omega)).mp c_151
            subst hz
            refine jr_goto (tgt := 328) hX dX7_isSame_154 (by decide) ?_
            refine jr_iinc hX dX7_isSame_328 rfl (by first | with_reducible exact jj_inc _ | with_reducible exact jj_inc1 _) rfl ?_
            refine jr_goto (tgt := 20) hX dX7_isSame_331 (by decide) ?_
            exact jr_forget (fun _ _ h => h) (fun i v h => by rcases i with _ | _ | _ | _ | _ | _ | _ | _ | _ | _ | _ | _ | _ | _ | _ | _ | _ | _ | i <;> first | exact h | exact absurd h (by simp)) (ih _ _ _ _ hly hsy hmi2 hq2)
        · refine jr_iload hX dX7_isSame_118 rfl ?_
          refine jr_bipush (v := 8) hX dX7_isSame_120 (by decide) ?_
          refine jr_icmp_ge (tgt := 149) hX dX7_isSame_122 (by decide) (fun c_122 => absurd c_122 (show ¬ nI 8 ≤ nI w from nI_ge (by assumption) (by omega))) (fun c_122 => ?_)
          refine jr_aload_n hX dX7_isSame_125 rfl ?_
          refine jr_iload hX dX7_isSame_126 rfl ?_
          refine jr_iload hX dX7_isSame_128 rfl ?_
          refine jr_ret (jr_runV hX hSt kM_X7_105 (c_harbour_ok (jj_fl hX) hly (eqA_sf hq2 htc.1) (by assumption) (by assumption)) rfl rfl (ly_kI hly) ⟨_, _, rfl, by decide⟩ dX7_isSame_130 rfl ⟨by simp only [jj_N]; omega, by simp only [jj_N]; omega⟩ rfl) ?_
          rw [hf_e (eqT_A hq2) hB10]
          refine jr_aload hX dX7_isSame_133 rfl ?_
          refine jr_iload hX dX7_isSame_135 rfl ?_
          refine jr_iald hX (by unfold jj_uK; rw [if_pos rfl]) (by first | with_reducible rfl | with_reducible assumption | rfl) (by omega) dX7_isSame_137 ?_
          rw [hT w (by assumption)]
          refine jr_icmp_eq (tgt := 143) hX dX7_isSame_138 (by decide) (fun c_138 => ?_) (fun c_138 => absurd rfl c_138)
          refine jr_iinc hX dX7_isSame_143 rfl (by first | with_reducible exact jj_inc _ | with_reducible exact jj_inc1 _) rfl ?_
          refine jr_goto (tgt := 118) hX dX7_isSame_146 (by decide) ?_
          exact ih
      exact h2 0 (Nat.zero_le _)
  exact h1 0 (Nat.zero_le _) _ _ _ _ hly hsy hms (fun _ _ => rfl)
