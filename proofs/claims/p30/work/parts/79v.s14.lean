/-! the law's day: the later checks -/
set_option maxHeartbeats 4000000 in
set_option maxRecDepth 100000 in
theorem lw_goods {X : jj_X} {D : jj_D} {nm : String} {tb : List ExceptionTableEntry} {Q : State → Prop} (hX : jj_Cx X D cL_law RL 29 (some .boolean) nm { frames := 12, cells := 600074, slots := 7301550, locals := 458 } tb) (hSt : jj_St X D) {n cs sl : Nat} {K : jj_K} {I : jj_I} {P : jj_P} {G : jj_G} {A : Nat → Nat} {H M B N t t0 time q d who nA nO nC : Nat} {x : Int32} {C : jj_I} (hv : lv A H M B N n t K I P) (tC : tn_c t0 H M B N C) (he : eqT I (f_pd 0 H B N d C)) (hdC : C (aR 0) 0 = nI d) (hd2 : d + 1 < 2000000000) (hw : lw B C) (hcs : cs + 100 ≤ 600074) (hsl : sl + 200 ≤ 7301550) (kk : jj_J X D 29 cs sl Q n K I P G 1238 [some (.ref (0)), some (.ref (1)), some (.ref (A 0)), some (.int (nI H)), some (.int (nI B)), some (.int (nI M)), some (.int (nI time)), some (.int (x)), some (.ref (q)), some (.ref (nA)), some (.int (nI who)), some (.ref (nO)), some (.ref (nC)), some (.int (sm (g_go B N C) M)), some (.int (g_cs M C)), some (.int (nI N)), some (.int (sm (s_op C) N)), some (.int (nI d)), some (.int (C (aWm 0) (d % 40))), some (.int (sm (q_bi 0 1 C) B)), some (.int (sm (q_bi 0 3 (f_pd 0 H B N d C)) B - sm (q_bi 0 3 C) B)), some (.int (sm (g_lo C (f_pd 0 H B N d C)) B)), none, none, none, none, none, none, none] []) :
    jj_J X D 29 (cs) (sl) Q (n) (K) (I) (P) G 1083 [some (.ref (0)), some (.ref (1)), some (.ref (A 0)), some (.int (nI H)), some (.int (nI B)), some (.int (nI M)), some (.int (nI time)), some (.int (x)), some (.ref (q)), some (.ref (nA)), some (.int (nI who)), some (.ref (nO)), some (.ref (nC)), some (.int (sm (g_go B N C) M)), some (.int (g_cs M C)), some (.int (nI N)), some (.int (sm (s_op C) N)), some (.int (nI d)), some (.int (C (aWm 0) (d % 40))), some (.int (sm (q_bi 0 1 C) B)), some (.int (sm (q_bi 0 3 (f_pd 0 H B N d C)) B - sm (q_bi 0 3 C) B)), some (.int (sm (g_lo C (f_pd 0 H B N d C)) B)), none, none, none, none, none, none, none] [] := by
  obtain ⟨hly, hsy, hms, htc, hdz, hH, hM, hB1, hB9, how⟩ := id hv
  have g0 := sy_lt hsy (t := 0) sv_0
  have hdI : I (aR 0) 0 = nI (d + 1) := by rw [he _ (by simp only [aR]; omega)]; exact pd_dy tC.1 (by decide) hdC
  have eT := he
  obtain ⟨cgo, cc1, cc2, cop, cdb⟩ := ck_sums tC hw he
  obtain ⟨mpos, spos⟩ := ck_pos htc
  have hN30 := hsy.1.2.2.2
  refine jr_iconst (v := 0) hX dL_law_1083 (by decide) ?_
  refine jr_istore hX dL_law_1084 rfl ?_
  refine jr_iconst (v := 0) hX dL_law_1086 (by decide) ?_
  refine jr_istore hX dL_law_1087 rfl ?_
  have k1 : ∀ m, m ≤ M → jj_J X D 29 (cs) (sl) Q (n) (K) (I) (P) (G) 1089 [some (.ref (0)), some (.ref (1)), some (.ref (A 0)), some (.int (nI H)), some (.int (nI B)), some (.int (nI M)), some (.int (nI time)), some (.int (x)), some (.ref (q)), some (.ref (nA)), some (.int (nI who)), some (.ref (nO)), some (.ref (nC)), some (.int (sm (g_go B N C) M)), some (.int (g_cs M C)), some (.int (nI N)), some (.int (sm (s_op C) N)), some (.int (nI d)), some (.int (C (aWm 0) (d % 40))), some (.int (sm (q_bi 0 1 C) B)), some (.int (sm (q_bi 0 3 (f_pd 0 H B N d C)) B - sm (q_bi 0 3 C) B)), some (.int (sm (g_lo C (f_pd 0 H B N d C)) B)), none, none, some (.int (sm (g_go B N I) m)), some (.int (nI m)), none, none, none] [] := by
    refine jj_for (M) _ ?_ (fun m hm ih => ?_)
    · refine jr_iload hX dL_law_1089 rfl ?_
      refine jr_iload hX dL_law_1091 rfl ?_
      refine jr_icmp_ge (tgt := 1179) hX dL_law_1093 (by decide) (fun c_1093 => ?_) (fun c_1093 => absurd (nI_le (Nat.le_refl _) (by omega)) c_1093)
      refine jr_iload hX dL_law_1179 rfl ?_
      refine jr_iload hX dL_law_1181 rfl ?_
      refine jr_iload hX dL_law_1183 rfl ?_
      refine jr_isub hX dL_law_1185 ?_
      refine jr_icmp_ne (tgt := 1236) hX dL_law_1186 (by decide) (fun c_1186 => absurd c_1186 (show ¬ ¬ _ = _ from fun q => q cgo)) (fun c_1186 => ?_)
      refine jr_aload_n hX dL_law_1189 rfl ?_
      refine jr_bipush (v := 8) hX dL_law_1190 (by decide) ?_
      refine jr_ret (jr_runV hX hSt kM_L_173 (c_count_ok (jj_fl hX) hly htc.1 (t := 8) (by decide)) rfl rfl (ly_kI hly) ⟨_, _, rfl, by decide⟩ dL_law_1192 rfl ⟨by simp only [jj_N]; omega, by simp only [jj_N]; omega⟩ rfl) ?_
      rw [show q_cf H M B N I 8 = g_cs M I from rfl]
      refine jr_iload hX dL_law_1195 rfl ?_
      refine jr_icmp_gt (tgt := 1236) hX dL_law_1197 (by decide) (fun c_1197 => absurd c_1197 (Int32.not_lt.mpr cc1)) (fun c_1197 => ?_)
      refine jr_aload_n hX dL_law_1200 rfl ?_
      refine jr_bipush (v := 8) hX dL_law_1201 (by decide) ?_
      refine jr_ret (jr_runV hX hSt kM_L_173 (c_count_ok (jj_fl hX) hly htc.1 (t := 8) (by decide)) rfl rfl (ly_kI hly) ⟨_, _, rfl, by decide⟩ dL_law_1203 rfl ⟨by simp only [jj_N]; omega, by simp only [jj_N]; omega⟩ rfl) ?_
      rw [show q_cf H M B N I 8 = g_cs M I from rfl]
      refine jr_iload hX dL_law_1206 rfl ?_
      refine jr_iload hX dL_law_1208 rfl ?_
      refine jr_isub hX dL_law_1210 ?_
      refine jr_icmp_lt (tgt := 1236) hX dL_law_1211 (by decide) (fun c_1211 => absurd c_1211 (Int32.not_lt.mpr cc2)) (fun c_1211 => ?_)
      refine jr_aload_n hX dL_law_1214 rfl ?_
      refine jr_bipush (v := 6) hX dL_law_1215 (by decide) ?_
      refine jr_ret (jr_runV hX hSt kM_L_173 (c_count_ok (jj_fl hX) hly htc.1 (t := 6) (by decide)) rfl rfl (ly_kI hly) ⟨_, _, rfl, by decide⟩ dL_law_1217 rfl ⟨by simp only [jj_N]; omega, by simp only [jj_N]; omega⟩ rfl) ?_
      rw [s_cf_e htc, show s_cf H M B N I 6 = nI N from rfl]
      refine jr_iload hX dL_law_1220 rfl ?_
      refine jr_icmp_ne (tgt := 1236) hX dL_law_1222 (by decide) (fun c_1222 => absurd c_1222 (show ¬ ¬ _ = _ from fun q => q rfl)) (fun c_1222 => ?_)
      refine jr_aload_n hX dL_law_1225 rfl ?_
      refine jr_bipush (v := 7) hX dL_law_1226 (by decide) ?_
      refine jr_ret (jr_runV hX hSt kM_L_173 (c_count_ok (jj_fl hX) hly htc.1 (t := 7) (by decide)) rfl rfl (ly_kI hly) ⟨_, _, rfl, by decide⟩ dL_law_1228 rfl ⟨by simp only [jj_N]; omega, by simp only [jj_N]; omega⟩ rfl) ?_
      rw [s_cf_e htc, show s_cf H M B N I 7 = sm (s_op I) N from rfl]
      refine jr_iload hX dL_law_1231 rfl ?_
      refine jr_icmp_le (tgt := 1238) hX dL_law_1233 (by decide) (fun c_1233 => ?_) (fun c_1233 => absurd cop c_1233)
      exact jr_forget (fun _ _ h => h) (fun i v h => by rcases i with _ | _ | _ | _ | _ | _ | _ | _ | _ | _ | _ | _ | _ | _ | _ | _ | _ | _ | _ | _ | _ | _ | _ | _ | _ | _ | _ | _ | _ | i <;> first | exact h | exact absurd h (by simp)) (kk)
    · refine jr_iload hX dL_law_1089 rfl ?_
      refine jr_iload hX dL_law_1091 rfl ?_
      refine jr_icmp_ge (tgt := 1179) hX dL_law_1093 (by decide) (fun c_1093 => absurd c_1093 (nI_ge (by assumption) (by omega))) (fun c_1093 => ?_)
      refine jr_iload hX dL_law_1096 rfl ?_
      refine jr_aload_n hX dL_law_1098 rfl ?_
      refine jr_iload hX dL_law_1099 rfl ?_
      refine jr_iconst (v := 4) hX dL_law_1101 (by decide) ?_
      refine jr_ret (jr_runV hX hSt kM_L_170 (c_merchant_ok (jj_fl hX) hly htc.1 (m := m) (t := 4) (by assumption) (by decide)) rfl rfl (ly_kI hly) ⟨_, _, rfl, by decide⟩ dL_law_1102 rfl ⟨by simp only [jj_N]; omega, by simp only [jj_N]; omega⟩ rfl) ?_
      refine jr_aload_n hX dL_law_1105 rfl ?_
      refine jr_iload hX dL_law_1106 rfl ?_
      refine jr_iconst (v := 5) hX dL_law_1108 (by decide) ?_
      refine jr_ret (jr_runV hX hSt kM_L_170 (c_merchant_ok (jj_fl hX) hly htc.1 (m := m) (t := 5) (by assumption) (by decide)) rfl rfl (ly_kI hly) ⟨_, _, rfl, by decide⟩ dL_law_1109 rfl ⟨by simp only [jj_N]; omega, by simp only [jj_N]; omega⟩ rfl) ?_
      refine jr_iadd hX dL_law_1112 ?_
      refine jr_iadd hX dL_law_1113 ?_
      refine jr_istore hX dL_law_1114 rfl ?_
      refine jr_aload_n hX dL_law_1116 rfl ?_
      refine jr_iload hX dL_law_1117 rfl ?_
      refine jr_iconst (v := 0) hX dL_law_1119 (by decide) ?_
      refine jr_ret (jr_runV hX hSt kM_L_170 (c_merchant_ok (jj_fl hX) hly htc.1 (m := m) (t := 0) (by assumption) (by decide)) rfl rfl (ly_kI hly) ⟨_, _, rfl, by decide⟩ dL_law_1120 rfl ⟨by simp only [jj_N]; omega, by simp only [jj_N]; omega⟩ rfl) ?_
      refine jr_if_ge (tgt := 1128) hX dL_law_1123 (by decide) (fun c_1123 => ?_) (fun c_1123 => absurd (show 0 ≤ I (aM 0 m) 0 from mpos m (by omega)) c_1123)
      refine jr_iconst (v := 0) hX dL_law_1128 (by decide) ?_
      refine jr_istore hX dL_law_1129 rfl ?_
      have k2 : ∀ h, h ≤ H → jj_J X D 29 (cs) (sl) Q (n) (K) (I) (P) (G) 1131 [some (.ref (0)), some (.ref (1)), some (.ref (A 0)), some (.int (nI H)), some (.int (nI B)), some (.int (nI M)), some (.int (nI time)), some (.int (x)), some (.ref (q)), some (.ref (nA)), some (.int (nI who)), some (.ref (nO)), some (.ref (nC)), some (.int (sm (g_go B N C) M)), some (.int (g_cs M C)), some (.int (nI N)), some (.int (sm (s_op C) N)), some (.int (nI d)), some (.int (C (aWm 0) (d % 40))), some (.int (sm (q_bi 0 1 C) B)), some (.int (sm (q_bi 0 3 (f_pd 0 H B N d C)) B - sm (q_bi 0 3 C) B)), some (.int (sm (g_lo C (f_pd 0 H B N d C)) B)), none, none, some (.int (sm (g_go B N I) (m + 1))), some (.int (nI m)), some (.int (nI h)), none, none] [] := by
        refine jj_for (H) _ ?_ (fun h hh ih => ?_)
        · refine jr_iload hX dL_law_1131 rfl ?_
          refine jr_iload_n hX dL_law_1133 rfl ?_
          refine jr_icmp_ge (tgt := 1173) hX dL_law_1134 (by decide) (fun c_1134 => ?_) (fun c_1134 => absurd (nI_le (Nat.le_refl _) (by omega)) c_1134)
          refine jr_iinc hX dL_law_1173 rfl (by first | with_reducible exact jj_inc _ | with_reducible exact jj_inc1 _) rfl ?_
          refine jr_goto (tgt := 1089) hX dL_law_1176 (by decide) ?_
          exact jr_forget (fun _ _ h => h) (fun i v h => by rcases i with _ | _ | _ | _ | _ | _ | _ | _ | _ | _ | _ | _ | _ | _ | _ | _ | _ | _ | _ | _ | _ | _ | _ | _ | _ | _ | _ | _ | _ | i <;> first | exact h | exact absurd h (by simp)) (ih)
        · refine jr_iload hX dL_law_1131 rfl ?_
          refine jr_iload_n hX dL_law_1133 rfl ?_
          refine jr_icmp_ge (tgt := 1173) hX dL_law_1134 (by decide) (fun c_1134 => absurd c_1134 (nI_ge (by assumption) (by omega))) (fun c_1134 => ?_)
          refine jr_iconst (v := 0) hX dL_law_1137 (by decide) ?_
          refine jr_istore hX dL_law_1138 rfl ?_
          have k3 : ∀ g, g ≤ 4 → jj_J X D 29 (cs) (sl) Q (n) (K) (I) (P) (G) 1140 [some (.ref (0)), some (.ref (1)), some (.ref (A 0)), some (.int (nI H)), some (.int (nI B)), some (.int (nI M)), some (.int (nI time)), some (.int (x)), some (.ref (q)), some (.ref (nA)), some (.int (nI who)), some (.ref (nO)), some (.ref (nC)), some (.int (sm (g_go B N C) M)), some (.int (g_cs M C)), some (.int (nI N)), some (.int (sm (s_op C) N)), some (.int (nI d)), some (.int (C (aWm 0) (d % 40))), some (.int (sm (q_bi 0 1 C) B)), some (.int (sm (q_bi 0 3 (f_pd 0 H B N d C)) B - sm (q_bi 0 3 C) B)), some (.int (sm (g_lo C (f_pd 0 H B N d C)) B)), none, none, some (.int (sm (g_go B N I) (m + 1))), some (.int (nI m)), some (.int (nI h)), some (.int (nI g)), none] [] := by
            refine jj_for (4) _ ?_ (fun g hg ih => ?_)
            · refine jr_iload hX dL_law_1140 rfl ?_
              refine jr_iconst (v := 4) hX dL_law_1142 (by decide) ?_
              refine jr_icmp_ge (tgt := 1167) hX dL_law_1143 (by decide) (fun c_1143 => ?_) (fun c_1143 => absurd (by decide) c_1143)
              refine jr_iinc hX dL_law_1167 rfl (by first | with_reducible exact jj_inc _ | with_reducible exact jj_inc1 _) rfl ?_
              refine jr_goto (tgt := 1131) hX dL_law_1170 (by decide) ?_
              exact jr_forget (fun _ _ h => h) (fun i v h => by rcases i with _ | _ | _ | _ | _ | _ | _ | _ | _ | _ | _ | _ | _ | _ | _ | _ | _ | _ | _ | _ | _ | _ | _ | _ | _ | _ | _ | _ | _ | i <;> first | exact h | exact absurd h (by simp)) (ih)
            · refine jr_iload hX dL_law_1140 rfl ?_
              refine jr_iconst (v := 4) hX dL_law_1142 (by decide) ?_
              refine jr_icmp_ge (tgt := 1167) hX dL_law_1143 (by decide) (fun c_1143 => absurd c_1143 (show ¬ nI 4 ≤ nI g from nI_ge (by assumption) (by omega))) (fun c_1143 => ?_)
              refine jr_aload_n hX dL_law_1146 rfl ?_
              refine jr_iload hX dL_law_1147 rfl ?_
              refine jr_iload hX dL_law_1149 rfl ?_
              refine jr_iload hX dL_law_1151 rfl ?_
              refine jr_ret (jr_runV hX hSt kM_L_190 (c_stock_ok (jj_fl hX) hly htc.1 (by assumption) (by assumption) (by assumption)) rfl rfl (ly_kI hly) ⟨_, _, rfl, by decide⟩ dL_law_1153 rfl ⟨by simp only [jj_N]; omega, by simp only [jj_N]; omega⟩ rfl) ?_
              refine jr_if_ge (tgt := 1161) hX dL_law_1156 (by decide) (fun c_1156 => ?_) (fun c_1156 => absurd (spos m (by omega) (h * 4 + g) (by omega)) c_1156)
              refine jr_iinc hX dL_law_1161 rfl (by first | with_reducible exact jj_inc _ | with_reducible exact jj_inc1 _) rfl ?_
              refine jr_goto (tgt := 1140) hX dL_law_1164 (by decide) ?_
              exact jr_forget (fun _ _ h => h) (fun i v h => by rcases i with _ | _ | _ | _ | _ | _ | _ | _ | _ | _ | _ | _ | _ | _ | _ | _ | _ | _ | _ | _ | _ | _ | _ | _ | _ | _ | _ | _ | _ | i <;> first | exact h | exact absurd h (by simp)) (ih)
          exact k3 0 (Nat.zero_le _)
      exact k2 0 (Nat.zero_le _)
  exact k1 0 (Nat.zero_le _)
set_option maxHeartbeats 4000000 in
set_option maxRecDepth 100000 in
theorem lw_debts {X : jj_X} {D : jj_D} {nm : String} {tb : List ExceptionTableEntry} {Q : State → Prop} (hX : jj_Cx X D cL_law RL 29 (some .boolean) nm { frames := 12, cells := 600074, slots := 7301550, locals := 458 } tb) (hSt : jj_St X D) {n cs sl : Nat} {K : jj_K} {I : jj_I} {P : jj_P} {G : jj_G} {A : Nat → Nat} {H M B N t t0 time q d who nA nO nC : Nat} {x : Int32} {C : jj_I} (hv : lv A H M B N n t K I P) (tC : tn_c t0 H M B N C) (he : eqT I (f_pd 0 H B N d C)) (hdC : C (aR 0) 0 = nI d) (hd2 : d + 1 < 2000000000) (hw : lw B C) (hcs : cs + 100 ≤ 600074) (hsl : sl + 200 ≤ 7301550) (kk : jj_J X D 29 cs sl Q n K I P G 1279 [some (.ref (0)), some (.ref (1)), some (.ref (A 0)), some (.int (nI H)), some (.int (nI B)), some (.int (nI M)), some (.int (nI time)), some (.int (x)), some (.ref (q)), some (.ref (nA)), some (.int (nI who)), some (.ref (nO)), some (.ref (nC)), some (.int (sm (g_go B N C) M)), some (.int (g_cs M C)), some (.int (nI N)), some (.int (sm (s_op C) N)), some (.int (nI d)), some (.int (C (aWm 0) (d % 40))), some (.int (sm (q_bi 0 1 C) B)), some (.int (sm (q_bi 0 3 (f_pd 0 H B N d C)) B - sm (q_bi 0 3 C) B)), some (.int (sm (g_lo C (f_pd 0 H B N d C)) B)), none, none, none, none, none, none, none] []) :
    jj_J X D 29 (cs) (sl) Q (n) (K) (I) (P) G 1238 [some (.ref (0)), some (.ref (1)), some (.ref (A 0)), some (.int (nI H)), some (.int (nI B)), some (.int (nI M)), some (.int (nI time)), some (.int (x)), some (.ref (q)), some (.ref (nA)), some (.int (nI who)), some (.ref (nO)), some (.ref (nC)), some (.int (sm (g_go B N C) M)), some (.int (g_cs M C)), some (.int (nI N)), some (.int (sm (s_op C) N)), some (.int (nI d)), some (.int (C (aWm 0) (d % 40))), some (.int (sm (q_bi 0 1 C) B)), some (.int (sm (q_bi 0 3 (f_pd 0 H B N d C)) B - sm (q_bi 0 3 C) B)), some (.int (sm (g_lo C (f_pd 0 H B N d C)) B)), none, none, none, none, none, none, none] [] := by
  obtain ⟨hly, hsy, hms, htc, hdz, hH, hM, hB1, hB9, how⟩ := id hv
  have g0 := sy_lt hsy (t := 0) sv_0
  have hdI : I (aR 0) 0 = nI (d + 1) := by rw [he _ (by simp only [aR]; omega)]; exact pd_dy tC.1 (by decide) hdC
  have eT := he
  obtain ⟨cgo, cc1, cc2, cop, cdb⟩ := ck_sums tC hw he
  obtain ⟨mpos, spos⟩ := ck_pos htc
  have hN30 := hsy.1.2.2.2
  refine jr_iconst (v := 0) hX dL_law_1238 (by decide) ?_
  refine jr_istore hX dL_law_1239 rfl ?_
  have k1 : ∀ k, k ≤ N → jj_J X D 29 (cs) (sl) Q (n) (K) (I) (P) (G) 1241 [some (.ref (0)), some (.ref (1)), some (.ref (A 0)), some (.int (nI H)), some (.int (nI B)), some (.int (nI M)), some (.int (nI time)), some (.int (x)), some (.ref (q)), some (.ref (nA)), some (.int (nI who)), some (.ref (nO)), some (.ref (nC)), some (.int (sm (g_go B N C) M)), some (.int (g_cs M C)), some (.int (nI N)), some (.int (sm (s_op C) N)), some (.int (nI d)), some (.int (C (aWm 0) (d % 40))), some (.int (sm (q_bi 0 1 C) B)), some (.int (sm (q_bi 0 3 (f_pd 0 H B N d C)) B - sm (q_bi 0 3 C) B)), some (.int (sm (g_lo C (f_pd 0 H B N d C)) B)), none, none, none, some (.int (nI k)), none, none, none] [] := by
    refine jj_for (N) _ ?_ (fun k hk ih => ?_)
    · refine jr_iload hX dL_law_1241 rfl ?_
      refine jr_iload hX dL_law_1243 rfl ?_
      refine jr_icmp_ge (tgt := 1279) hX dL_law_1245 (by decide) (fun c_1245 => ?_) (fun c_1245 => absurd (nI_le (Nat.le_refl _) (by omega)) c_1245)
      exact jr_forget (fun _ _ h => h) (fun i v h => by rcases i with _ | _ | _ | _ | _ | _ | _ | _ | _ | _ | _ | _ | _ | _ | _ | _ | _ | _ | _ | _ | _ | _ | _ | _ | _ | _ | _ | _ | _ | i <;> first | exact h | exact absurd h (by simp)) (kk)
    · refine jr_iload hX dL_law_1241 rfl ?_
      refine jr_iload hX dL_law_1243 rfl ?_
      refine jr_icmp_ge (tgt := 1279) hX dL_law_1245 (by decide) (fun c_1245 => absurd c_1245 (nI_ge (by assumption) (by omega))) (fun c_1245 => ?_)
      refine jr_aload_n hX dL_law_1248 rfl ?_
      refine jr_iload hX dL_law_1249 rfl ?_
      refine jr_bipush (v := 6) hX dL_law_1251 (by decide) ?_
      refine jr_ret (jr_runV hX hSt kM_L_192 (c_debt_ok (jj_fl hX) hly htc.1 (k := k) (t := 6) (by assumption) (by decide)) rfl rfl (ly_kI hly) ⟨_, _, rfl, by decide⟩ dL_law_1253 rfl ⟨by simp only [jj_N]; omega, by simp only [jj_N]; omega⟩ rfl) ?_
      refine jr_if_ne (tgt := 1273) hX dL_law_1256 (by decide) (fun c_1256 => ?_) (fun c_1256 => ?_)
      · refine jr_iinc hX dL_law_1273 rfl (by first | with_reducible exact jj_inc _ | with_reducible exact jj_inc1 _) rfl ?_
        refine jr_goto (tgt := 1241) hX dL_law_1276 (by decide) ?_
        exact jr_forget (fun _ _ h => h) (fun i v h => by rcases i with _ | _ | _ | _ | _ | _ | _ | _ | _ | _ | _ | _ | _ | _ | _ | _ | _ | _ | _ | _ | _ | _ | _ | _ | _ | _ | _ | _ | _ | i <;> first | exact h | exact absurd h (by simp)) (ih)
      · refine jr_aload_n hX dL_law_1259 rfl ?_
        refine jr_iload hX dL_law_1260 rfl ?_
        refine jr_iconst (v := 5) hX dL_law_1262 (by decide) ?_
        refine jr_ret (jr_runV hX hSt kM_L_192 (c_debt_ok (jj_fl hX) hly htc.1 (k := k) (t := 5) (by assumption) (by decide)) rfl rfl (ly_kI hly) ⟨_, _, rfl, by decide⟩ dL_law_1263 rfl ⟨by simp only [jj_N]; omega, by simp only [jj_N]; omega⟩ rfl) ?_
        refine jr_iload hX dL_law_1266 rfl ?_
        refine jr_icmp_gt (tgt := 1273) hX dL_law_1268 (by decide) (fun c_1268 => ?_) (fun c_1268 => absurd (ck_debt (cdb k (by assumption)) hdC c_1256) c_1268)
        refine jr_iinc hX dL_law_1273 rfl (by first | with_reducible exact jj_inc _ | with_reducible exact jj_inc1 _) rfl ?_
        refine jr_goto (tgt := 1241) hX dL_law_1276 (by decide) ?_
        exact jr_forget (fun _ _ h => h) (fun i v h => by rcases i with _ | _ | _ | _ | _ | _ | _ | _ | _ | _ | _ | _ | _ | _ | _ | _ | _ | _ | _ | _ | _ | _ | _ | _ | _ | _ | _ | _ | _ | i <;> first | exact h | exact absurd h (by simp)) (ih)
  exact k1 0 (Nat.zero_le _)
set_option maxHeartbeats 4000000 in
set_option maxRecDepth 100000 in
theorem lw_berths {X : jj_X} {D : jj_D} {nm : String} {tb : List ExceptionTableEntry} {Q : State → Prop} (hX : jj_Cx X D cL_law RL 29 (some .boolean) nm { frames := 12, cells := 600074, slots := 7301550, locals := 458 } tb) (hSt : jj_St X D) {n cs sl : Nat} {K : jj_K} {I : jj_I} {P : jj_P} {G : jj_G} {A : Nat → Nat} {H M B N t t0 time q d who nA nO nC : Nat} {x : Int32} {C : jj_I} (hv : lv A H M B N n t K I P) (tC : tn_c t0 H M B N C) (he : eqT I (f_pd 0 H B N d C)) (hdC : C (aR 0) 0 = nI d) (hd2 : d + 1 < 2000000000) (hw : lw B C) (hcs : cs + 100 ≤ 600074) (hsl : sl + 200 ≤ 7301550) (kk : jj_J X D 29 cs sl Q n K I P G 1330 [some (.ref (0)), some (.ref (1)), some (.ref (A 0)), some (.int (nI H)), some (.int (nI B)), some (.int (nI M)), some (.int (nI time)), some (.int (x)), some (.ref (q)), some (.ref (nA)), some (.int (nI who)), some (.ref (nO)), some (.ref (nC)), some (.int (sm (g_go B N C) M)), some (.int (g_cs M C)), some (.int (nI N)), some (.int (sm (s_op C) N)), some (.int (nI d)), some (.int (C (aWm 0) (d % 40))), some (.int (sm (q_bi 0 1 C) B)), some (.int (sm (q_bi 0 3 (f_pd 0 H B N d C)) B - sm (q_bi 0 3 C) B)), some (.int (sm (g_lo C (f_pd 0 H B N d C)) B)), none, none, none, none, none, none, none] []) :
    jj_J X D 29 (cs) (sl) Q (n) (K) (I) (P) G 1279 [some (.ref (0)), some (.ref (1)), some (.ref (A 0)), some (.int (nI H)), some (.int (nI B)), some (.int (nI M)), some (.int (nI time)), some (.int (x)), some (.ref (q)), some (.ref (nA)), some (.int (nI who)), some (.ref (nO)), some (.ref (nC)), some (.int (sm (g_go B N C) M)), some (.int (g_cs M C)), some (.int (nI N)), some (.int (sm (s_op C) N)), some (.int (nI d)), some (.int (C (aWm 0) (d % 40))), some (.int (sm (q_bi 0 1 C) B)), some (.int (sm (q_bi 0 3 (f_pd 0 H B N d C)) B - sm (q_bi 0 3 C) B)), some (.int (sm (g_lo C (f_pd 0 H B N d C)) B)), none, none, none, none, none, none, none] [] := by
  obtain ⟨hly, hsy, hms, htc, hdz, hH, hM, hB1, hB9, how⟩ := id hv
  have g0 := sy_lt hsy (t := 0) sv_0
  have hdI : I (aR 0) 0 = nI (d + 1) := by rw [he _ (by simp only [aR]; omega)]; exact pd_dy tC.1 (by decide) hdC
  have eT := he
  obtain ⟨cgo, cc1, cc2, cop, cdb⟩ := ck_sums tC hw he
  obtain ⟨mpos, spos⟩ := ck_pos htc
  have hN30 := hsy.1.2.2.2
  refine jr_iconst (v := 0) hX dL_law_1279 (by decide) ?_
  refine jr_istore hX dL_law_1280 rfl ?_
  have k1 : ∀ h, h ≤ H → jj_J X D 29 (cs) (sl) Q (n) (K) (I) (P) (G) 1282 [some (.ref (0)), some (.ref (1)), some (.ref (A 0)), some (.int (nI H)), some (.int (nI B)), some (.int (nI M)), some (.int (nI time)), some (.int (x)), some (.ref (q)), some (.ref (nA)), some (.int (nI who)), some (.ref (nO)), some (.ref (nC)), some (.int (sm (g_go B N C) M)), some (.int (g_cs M C)), some (.int (nI N)), some (.int (sm (s_op C) N)), some (.int (nI d)), some (.int (C (aWm 0) (d % 40))), some (.int (sm (q_bi 0 1 C) B)), some (.int (sm (q_bi 0 3 (f_pd 0 H B N d C)) B - sm (q_bi 0 3 C) B)), some (.int (sm (g_lo C (f_pd 0 H B N d C)) B)), none, none, none, some (.int (nI h)), none, none, none] [] := by
    refine jj_for (H) _ ?_ (fun h hh ih => ?_)
    · refine jr_iload hX dL_law_1282 rfl ?_
      refine jr_iload_n hX dL_law_1284 rfl ?_
      refine jr_icmp_ge (tgt := 1330) hX dL_law_1285 (by decide) (fun c_1285 => ?_) (fun c_1285 => absurd (nI_le (Nat.le_refl _) (by omega)) c_1285)
      exact jr_forget (fun _ _ h => h) (fun i v h => by rcases i with _ | _ | _ | _ | _ | _ | _ | _ | _ | _ | _ | _ | _ | _ | _ | _ | _ | _ | _ | _ | _ | _ | _ | _ | _ | _ | _ | _ | _ | i <;> first | exact h | exact absurd h (by simp)) (kk)
    · obtain ⟨cb1, cb2⟩ := ck_berth htc hh
      refine jr_iload hX dL_law_1282 rfl ?_
      refine jr_iload_n hX dL_law_1284 rfl ?_
      refine jr_icmp_ge (tgt := 1330) hX dL_law_1285 (by decide) (fun c_1285 => absurd c_1285 (nI_ge (by assumption) (by omega))) (fun c_1285 => ?_)
      refine jr_aload_n hX dL_law_1288 rfl ?_
      refine jr_iload hX dL_law_1289 rfl ?_
      refine jr_iconst (v := 1) hX dL_law_1291 (by decide) ?_
      refine jr_ret (jr_runV hX hSt kM_L_184 (c_harbour_ok (jj_fl hX) hly htc.1 (h := h) (t := 1) (by assumption) (by decide)) rfl rfl (ly_kI hly) ⟨_, _, rfl, by decide⟩ dL_law_1292 rfl ⟨by simp only [jj_N]; omega, by simp only [jj_N]; omega⟩ rfl) ?_
      refine jr_aload_n hX dL_law_1295 rfl ?_
      refine jr_iload hX dL_law_1296 rfl ?_
      refine jr_iconst (v := 0) hX dL_law_1298 (by decide) ?_
      refine jr_ret (jr_runV hX hSt kM_L_184 (c_harbour_ok (jj_fl hX) hly htc.1 (h := h) (t := 0) (by assumption) (by decide)) rfl rfl (ly_kI hly) ⟨_, _, rfl, by decide⟩ dL_law_1299 rfl ⟨by simp only [jj_N]; omega, by simp only [jj_N]; omega⟩ rfl) ?_
      refine jr_icmp_gt (tgt := 1322) hX dL_law_1302 (by decide) (fun c_1302 => absurd c_1302 (Int32.not_lt.mpr (show q_hf h H B I 1 ≤ q_hf h H B I 0 from cb1))) (fun c_1302 => ?_)
      refine jr_aload_n hX dL_law_1305 rfl ?_
      refine jr_iload hX dL_law_1306 rfl ?_
      refine jr_iconst (v := 1) hX dL_law_1308 (by decide) ?_
      refine jr_ret (jr_runV hX hSt kM_L_184 (c_harbour_ok (jj_fl hX) hly htc.1 (h := h) (t := 1) (by assumption) (by decide)) rfl rfl (ly_kI hly) ⟨_, _, rfl, by decide⟩ dL_law_1309 rfl ⟨by simp only [jj_N]; omega, by simp only [jj_N]; omega⟩ rfl) ?_
      refine jr_aload_n hX dL_law_1312 rfl ?_
      refine jr_iload hX dL_law_1313 rfl ?_
      refine jr_iconst (v := 2) hX dL_law_1315 (by decide) ?_
      refine jr_ret (jr_runV hX hSt kM_L_184 (c_harbour_ok (jj_fl hX) hly htc.1 (h := h) (t := 2) (by assumption) (by decide)) rfl rfl (ly_kI hly) ⟨_, _, rfl, by decide⟩ dL_law_1316 rfl ⟨by simp only [jj_N]; omega, by simp only [jj_N]; omega⟩ rfl) ?_
      refine jr_icmp_le (tgt := 1324) hX dL_law_1319 (by decide) (fun c_1319 => ?_) (fun c_1319 => absurd (show q_hf h H B I 1 ≤ q_hf h H B I 2 from cb2) c_1319)
      refine jr_iinc hX dL_law_1324 rfl (by first | with_reducible exact jj_inc _ | with_reducible exact jj_inc1 _) rfl ?_
      refine jr_goto (tgt := 1282) hX dL_law_1327 (by decide) ?_
      exact jr_forget (fun _ _ h => h) (fun i v h => by rcases i with _ | _ | _ | _ | _ | _ | _ | _ | _ | _ | _ | _ | _ | _ | _ | _ | _ | _ | _ | _ | _ | _ | _ | _ | _ | _ | _ | _ | _ | i <;> first | exact h | exact absurd h (by simp)) (ih)
  exact k1 0 (Nat.zero_le _)
set_option maxHeartbeats 4000000 in
set_option maxRecDepth 100000 in
theorem lw_arrive {X : jj_X} {D : jj_D} {nm : String} {tb : List ExceptionTableEntry} {Q : State → Prop} (hX : jj_Cx X D cL_law RL 29 (some .boolean) nm { frames := 12, cells := 600074, slots := 7301550, locals := 458 } tb) (hSt : jj_St X D) {n cs sl : Nat} {K : jj_K} {I : jj_I} {P : jj_P} {G : jj_G} {A : Nat → Nat} {H M B N t t0 time q d who nA nO nC : Nat} {x : Int32} {C : jj_I} (hv : lv A H M B N n t K I P) (tC : tn_c t0 H M B N C) (he : eqT I (f_pd 0 H B N d C)) (hdC : C (aR 0) 0 = nI d) (hd2 : d + 1 < 2000000000) (hw : lw B C) (hcs : cs + 100 ≤ 600074) (hsl : sl + 200 ≤ 7301550) (kA : K nA = some (10, B)) (hwho : who < B) (hA : I nA who = f_fs (g_ar H M B N who d C) 201 0) (hA1 : 150 ≤ nA ∧ nA < n) (kk : ∀ J : jj_I, lv A H M B N n t K J P → eqT J (f_pd 0 H B N d C) → (∀ a, 150 ≤ a → J a = I a) → jj_J X D 29 cs sl Q n K J P G 1083 [some (.ref (0)), some (.ref (1)), some (.ref (A 0)), some (.int (nI H)), some (.int (nI B)), some (.int (nI M)), some (.int (nI time)), some (.int (x)), some (.ref (q)), some (.ref (nA)), some (.int (nI who)), some (.ref (nO)), some (.ref (nC)), some (.int (sm (g_go B N C) M)), some (.int (g_cs M C)), some (.int (nI N)), some (.int (sm (s_op C) N)), some (.int (nI d)), some (.int (C (aWm 0) (d % 40))), some (.int (sm (q_bi 0 1 C) B)), some (.int (sm (q_bi 0 3 (f_pd 0 H B N d C)) B - sm (q_bi 0 3 C) B)), some (.int (sm (g_lo C (f_pd 0 H B N d C)) B)), none, none, none, none, none, none, none] []) :
    jj_J X D 29 (cs) (sl) Q (n) (K) (I) (P) G 1000 [some (.ref (0)), some (.ref (1)), some (.ref (A 0)), some (.int (nI H)), some (.int (nI B)), some (.int (nI M)), some (.int (nI time)), some (.int (x)), some (.ref (q)), some (.ref (nA)), some (.int (nI who)), some (.ref (nO)), some (.ref (nC)), some (.int (sm (g_go B N C) M)), some (.int (g_cs M C)), some (.int (nI N)), some (.int (sm (s_op C) N)), some (.int (nI d)), some (.int (C (aWm 0) (d % 40))), some (.int (sm (q_bi 0 1 C) B)), some (.int (sm (q_bi 0 3 (f_pd 0 H B N d C)) B - sm (q_bi 0 3 C) B)), some (.int (sm (g_lo C (f_pd 0 H B N d C)) B)), some (.int (sm (g_sk C (f_pd 0 H B N d C)) B)), some (.int (sm (q_bi 0 2 I) B)), none, none, none, none, none] [] := by
  obtain ⟨hly, hsy, hms, htc, hdz, hH, hM, hB1, hB9, how⟩ := id hv
  have g0 := sy_lt hsy (t := 0) sv_0
  have hdI : I (aR 0) 0 = nI (d + 1) := by rw [he _ (by simp only [aR]; omega)]; exact pd_dy tC.1 (by decide) hdC
  have eT := he
  obtain ⟨cgo, cc1, cc2, cop, cdb⟩ := ck_sums tC hw he
  obtain ⟨mpos, spos⟩ := ck_pos htc
  have hN30 := hsy.1.2.2.2
  have av := arv_s (d := d) tC.1 tC.2.1 hwho
  have hB72 : aB 0 who < 72 := by simp only [aB]; omega
  have hgone := sk_c (fun b hb => day_d (d := d) tC.1 tC.2.1 hb (hw b hb) (tC.2.2.2.2.1 b hb).1)
  refine jr_iload hX dL_law_1000 rfl ?_
  refine jr_iload hX dL_law_1002 rfl ?_
  refine jr_icmp_ne (tgt := 1017) hX dL_law_1004 (by decide) (fun c_1004 => absurd c_1004 (show ¬ ¬ _ = _ from fun q => q hgone.symm)) (fun c_1004 => ?_)
  refine jr_aload_n hX dL_law_1007 rfl ?_
  refine jr_iconst (v := 5) hX dL_law_1008 (by decide) ?_
  refine jr_ret (jr_runV hX hSt kM_L_173 (c_count_ok (jj_fl hX) hly htc.1 (t := 5) (by decide)) rfl rfl (ly_kI hly) ⟨_, _, rfl, by decide⟩ dL_law_1009 rfl ⟨by simp only [jj_N]; omega, by simp only [jj_N]; omega⟩ rfl) ?_
  rw [show q_cf H M B N I 5 = sm (q_bi 0 2 I) B from rfl]
  refine jr_iload hX dL_law_1012 rfl ?_
  refine jr_icmp_eq (tgt := 1019) hX dL_law_1014 (by decide) (fun c_1014 => ?_) (fun c_1014 => absurd rfl c_1014)
  refine jr_aload hX dL_law_1019 rfl ?_
  refine jr_iload hX dL_law_1021 rfl ?_
  refine jr_iald hX kA rfl (by omega) dL_law_1023 ?_
  rw [hA]
  refine jr_iconst (v := 1) hX dL_law_1024 (by decide) ?_
  refine jr_icmp_le (tgt := 1044) hX dL_law_1025 (by decide) (fun c_1025 => ?_) (fun c_1025 => ?_)
  · refine jr_aload hX dL_law_1044 rfl ?_
    refine jr_iload hX dL_law_1046 rfl ?_
    refine jr_iald hX kA rfl (by omega) dL_law_1048 ?_
    rw [hA]
    refine jr_iconst (v := 1) hX dL_law_1049 (by decide) ?_
    refine jr_icmp_ne (tgt := 1083) hX dL_law_1050 (by decide) (fun c_1050 => ?_) (fun c_1050 => ?_)
    · exact jr_forget (fun _ _ h => h) (fun i v h => by rcases i with _ | _ | _ | _ | _ | _ | _ | _ | _ | _ | _ | _ | _ | _ | _ | _ | _ | _ | _ | _ | _ | _ | _ | _ | _ | _ | _ | _ | _ | i <;> first | exact h | exact absurd h (by simp)) (kk I hv he (fun _ _ => rfl))
    · refine jr_aload_n hX dL_law_1053 rfl ?_
      refine jr_iload hX dL_law_1054 rfl ?_
      refine jr_iconst (v := 3) hX dL_law_1056 (by decide) ?_
      refine jr_ret (jr_runV hX hSt kM_L_158 (c_boat_ok (jj_fl hX) hly htc.1 (b := who) (t := 3) hwho (by decide)) rfl rfl (ly_kI hly) ⟨_, _, rfl, by decide⟩ dL_law_1057 rfl ⟨by simp only [jj_N]; omega, by simp only [jj_N]; omega⟩ rfl) ?_
      rw [show q_bf who I 3 = f_pd 0 H B N d C (aB 0 who) 3 from by show I (aB 0 who) 3 = _; rw [he _ hB72]]
      refine jr_iconst (v := 1) hX dL_law_1060 (by decide) ?_
      refine jr_icmp_gt (tgt := 1081) hX dL_law_1061 (by decide) (fun c_1061 => absurd c_1061 (by rcases (av.2 c_1050).1 with e | e <;> rw [e] <;> decide)) (fun c_1061 => ?_)
      refine jr_aload_n hX dL_law_1064 rfl ?_
      refine jr_iload hX dL_law_1065 rfl ?_
      refine jr_iconst (v := 4) hX dL_law_1067 (by decide) ?_
      refine jr_ret (jr_runV hX hSt kM_L_158 (c_boat_ok (jj_fl hX) hly htc.1 (b := who) (t := 4) hwho (by decide)) rfl rfl (ly_kI hly) ⟨_, _, rfl, by decide⟩ dL_law_1068 rfl ⟨by simp only [jj_N]; omega, by simp only [jj_N]; omega⟩ rfl) ?_
      rw [show q_bf who I 4 = f_pd 0 H B N d C (aB 0 who) 4 from by show I (aB 0 who) 4 = _; rw [he _ hB72]]
      refine jr_aload_n hX dL_law_1071 rfl ?_
      refine jr_iload hX dL_law_1072 rfl ?_
      refine jr_iconst (v := 5) hX dL_law_1074 (by decide) ?_
      refine jr_ret (jr_runV hX hSt kM_L_158 (c_boat_ok (jj_fl hX) hly htc.1 (b := who) (t := 5) hwho (by decide)) rfl rfl (ly_kI hly) ⟨_, _, rfl, by decide⟩ dL_law_1075 rfl ⟨by simp only [jj_N]; omega, by simp only [jj_N]; omega⟩ rfl) ?_
      rw [show q_bf who I 5 = f_pd 0 H B N d C (aB 0 who) 6 from by show I (aB 0 who) 6 = _; rw [he _ hB72]]
      refine jr_icmp_eq (tgt := 1083) hX dL_law_1078 (by decide) (fun c_1078 => ?_) (fun c_1078 => absurd (av.2 c_1050).2 c_1078)
      exact jr_forget (fun _ _ h => h) (fun i v h => by rcases i with _ | _ | _ | _ | _ | _ | _ | _ | _ | _ | _ | _ | _ | _ | _ | _ | _ | _ | _ | _ | _ | _ | _ | _ | _ | _ | _ | _ | _ | i <;> first | exact h | exact absurd h (by simp)) (kk I hv he (fun _ _ => rfl))
  · refine jr_aload_n hX dL_law_1028 rfl ?_
    refine jr_iload hX dL_law_1029 rfl ?_
    refine jr_rel (jr_runV hX hSt kM_L_161 (c_arrives_ok (jj_fl hX) hly htc.1 hdI hd2 hwho) rfl rfl (ly_kI hly) ⟨_, _, rfl, by decide⟩ dL_law_1031 rfl ⟨by simp only [jj_N]; omega, by simp only [jj_N]; omega⟩ rfl) ?_
    rintro r1 J1 ⟨rfl, o1⟩
    simp only [Option.toList, List.nil_append, List.singleton_append, List.cons_append]
    rw [ga_T (C := f_pd 0 H B N d C) he htc.1 (sf_pd tC.1) (sk_pd tC.1 tC.2.1) hwho, av.1 (Int32.not_le.mp c_1025)]
    have hA : J1 nA who = f_fs (g_ar H M B N who d C) 201 0 := by rw [o1 nA (Or.inr (by omega))]; exact hA
    have hv := lv_ext (K1 := K) (P1 := P) hv (Nat.le_refl _) (fun _ _ => rfl) (fun _ _ => rfl) (fun a _ h => o1 a h)
    have he : eqT J1 (f_pd 0 H B N d C) := fun a ha => (o1 a (Or.inl ha)).trans (he a ha)
    have frq : ∀ a, 150 ≤ a → J1 a = I a := fun a ha => o1 a (Or.inr (by omega))
    have htc := hv.2.2.2.1
    refine jr_aload hX dL_law_1034 rfl ?_
    refine jr_iload hX dL_law_1036 rfl ?_
    refine jr_iald hX kA rfl (by omega) dL_law_1038 ?_
    rw [hA]
    refine jr_iconst (v := 1) hX dL_law_1039 (by decide) ?_
    refine jr_isub hX dL_law_1040 ?_
    refine jr_icmp_ne (tgt := 1081) hX dL_law_1041 (by decide) (fun c_1041 => absurd c_1041 (show ¬ ¬ _ = _ from fun q => q rfl)) (fun c_1041 => ?_)
    refine jr_aload hX dL_law_1044 rfl ?_
    refine jr_iload hX dL_law_1046 rfl ?_
    refine jr_iald hX kA rfl (by omega) dL_law_1048 ?_
    rw [hA]
    refine jr_iconst (v := 1) hX dL_law_1049 (by decide) ?_
    refine jr_icmp_ne (tgt := 1083) hX dL_law_1050 (by decide) (fun c_1050 => ?_) (fun c_1050 => ?_)
    · exact jr_forget (fun _ _ h => h) (fun i v h => by rcases i with _ | _ | _ | _ | _ | _ | _ | _ | _ | _ | _ | _ | _ | _ | _ | _ | _ | _ | _ | _ | _ | _ | _ | _ | _ | _ | _ | _ | _ | i <;> first | exact h | exact absurd h (by simp)) (kk J1 hv he frq)
    · refine jr_aload_n hX dL_law_1053 rfl ?_
      refine jr_iload hX dL_law_1054 rfl ?_
      refine jr_iconst (v := 3) hX dL_law_1056 (by decide) ?_
      refine jr_ret (jr_runV hX hSt kM_L_158 (c_boat_ok (jj_fl hX) hly htc.1 (b := who) (t := 3) hwho (by decide)) rfl rfl (ly_kI hly) ⟨_, _, rfl, by decide⟩ dL_law_1057 rfl ⟨by simp only [jj_N]; omega, by simp only [jj_N]; omega⟩ rfl) ?_
      rw [show q_bf who J1 3 = f_pd 0 H B N d C (aB 0 who) 3 from by show J1 (aB 0 who) 3 = _; rw [he _ hB72]]
      refine jr_iconst (v := 1) hX dL_law_1060 (by decide) ?_
      refine jr_icmp_gt (tgt := 1081) hX dL_law_1061 (by decide) (fun c_1061 => absurd c_1061 (by rcases (av.2 c_1050).1 with e | e <;> rw [e] <;> decide)) (fun c_1061 => ?_)
      refine jr_aload_n hX dL_law_1064 rfl ?_
      refine jr_iload hX dL_law_1065 rfl ?_
      refine jr_iconst (v := 4) hX dL_law_1067 (by decide) ?_
      refine jr_ret (jr_runV hX hSt kM_L_158 (c_boat_ok (jj_fl hX) hly htc.1 (b := who) (t := 4) hwho (by decide)) rfl rfl (ly_kI hly) ⟨_, _, rfl, by decide⟩ dL_law_1068 rfl ⟨by simp only [jj_N]; omega, by simp only [jj_N]; omega⟩ rfl) ?_
      rw [show q_bf who J1 4 = f_pd 0 H B N d C (aB 0 who) 4 from by show J1 (aB 0 who) 4 = _; rw [he _ hB72]]
      refine jr_aload_n hX dL_law_1071 rfl ?_
      refine jr_iload hX dL_law_1072 rfl ?_
      refine jr_iconst (v := 5) hX dL_law_1074 (by decide) ?_
      refine jr_ret (jr_runV hX hSt kM_L_158 (c_boat_ok (jj_fl hX) hly htc.1 (b := who) (t := 5) hwho (by decide)) rfl rfl (ly_kI hly) ⟨_, _, rfl, by decide⟩ dL_law_1075 rfl ⟨by simp only [jj_N]; omega, by simp only [jj_N]; omega⟩ rfl) ?_
      rw [show q_bf who J1 5 = f_pd 0 H B N d C (aB 0 who) 6 from by show J1 (aB 0 who) 6 = _; rw [he _ hB72]]
      refine jr_icmp_eq (tgt := 1083) hX dL_law_1078 (by decide) (fun c_1078 => ?_) (fun c_1078 => absurd (av.2 c_1050).2 c_1078)
      exact jr_forget (fun _ _ h => h) (fun i v h => by rcases i with _ | _ | _ | _ | _ | _ | _ | _ | _ | _ | _ | _ | _ | _ | _ | _ | _ | _ | _ | _ | _ | _ | _ | _ | _ | _ | _ | _ | _ | i <;> first | exact h | exact absurd h (by simp)) (kk J1 hv he frq)
