/-! the law's doings, walked -/
section AC
variable {A : Nat → Nat} {H M B N n t : Nat} {K : jj_K} {P : jj_P} {I J C : jj_I}
theorem tc_st (h : tn_c t H M B N C) {m c : Nat} (hm : m < 5) (hc : c < 32) : ∃ s, s ≤ 51200 ∧ C (aMt 0 m) c = nI s := by
  have g := h.2.2.2.1
  exact ⟨nv (C (aMt 0 m) c), by have := tg_S g hm hc; omega, g.2.2.2.1 m hm c hc⟩
theorem tc_st1 (h : tn_c t H M B N C) {m c : Nat} (hm : m < 5) (hc : c < 32) (h0 : ¬ C (aMt 0 m) c = 0) : ∃ s, (0 < s ∧ s ≤ 51200) ∧ C (aMt 0 m) c = nI s := by
  obtain ⟨s, h1, h2⟩ := tc_st h hm hc
  refine ⟨s, ⟨?_, h1⟩, h2⟩
  rcases Nat.eq_zero_or_pos s with e | e
  · subst e; exact absurd h2 h0
  · exact e
theorem mn_nI {a b : Nat} (ha : a < 2147483648) (hb : b < 2147483648) : (if nI a < nI b then nI a else nI b) = nI (if a < b then a else b) := by
  by_cases h : a < b
  · rw [if_pos ((sn_il ha hb).mpr h), if_pos h]
  · rw [if_neg (fun q => h ((sn_il ha hb).mp q)), if_neg h]
theorem st_01 {x : Int32} (h : x = 0 ∨ x = 1 ∨ x = 2 ∨ x = 3) (c : x ≤ 1) : x = 0 ∨ x = 1 := by
  rcases h with e | e | e | e
  · exact Or.inl e
  · exact Or.inr e
  · subst e; exact absurd c (by decide)
  · subst e; exact absurd c (by decide)
theorem jj_us {a k : Nat} {v : Int32} (h : I a k = v) : jj_u I a k v = I := by
  funext b j
  unfold jj_u
  by_cases e : b = a ∧ j = k
  · rw [if_pos e, e.1, e.2, h]
  · rw [if_neg e]
theorem tc_hu (h : tn_c t H M B N C) {b : Nat} (hb : b < B) (h3 : ¬ C (aB 0 b) 3 = 3) : ∃ q, (1 ≤ q ∧ q ≤ 20) ∧ C (aB 0 b) 1 = nI q := by
  obtain ⟨q, h1, h2, h4⟩ := (h.2.2.2.2.1 b hb).1.2 h3
  exact ⟨q, ⟨h1, h2⟩, h4⟩
theorem tc_co (h : tn_c t H M B N C) {m : Nat} (hm : m < 5) : ∃ s, s ≤ 2560000 ∧ C (aM 0 m) 0 = nI s := by
  have g := h.2.2.2.1
  exact ⟨nv (C (aM 0 m) 0), by have := tg_C g hm; omega, g.2.2.1 m hm⟩
end AC
set_option maxHeartbeats 4000000 in
set_option maxRecDepth 100000 in
theorem l_act_0 {l : Launch} (hfl : l.stackTraces = false) {D : jj_D} {n : Nat} {K : jj_K} {I : jj_I} {P : jj_P} {G : jj_G} {A : Nat → Nat} {H M B N t : Nat} {x : Int32} (hv : lv A H M B N n t K I P) (ht : t + 2 ≤ 512) (e9 : bw (x >>> (9 &&& 31)) 10 = 0) :
    jj_Met l D yL_act (jj_ws yL_act cL_act 16 (some .boolean)) { frames := 9, cells := 2, slots := 38, locals := 159 } [.ref 1, .ref (A 0), .int x] n K I P G (fun r n1 K1 I1 P1 G1 => G1 = G ∧ r = some (.int 1) ∧ ∃ A1 N1, A1 0 = A 0 ∧ lv A1 H M B N1 n1 (t + 2) K1 I1 P1) jj_noX := by
  refine jj_of hfl (by decide +kernel) [some (.ref 1), some (.ref (A 0)), some (.int x), none, none, none, none, none, none, none, none, none, none, none, none, none] rfl rfl ?_
  intro X hXl hX hSt
  obtain ⟨hly, hsy, hms, htc, hdz, hH, hM, hB⟩ := id hv
  obtain ⟨hH8, hM5, hB10, hN30⟩ := id hsy.1
  have g0 := sy_lt hsy (t := 0) sv_0
  have g4 := sy_lt hsy (t := 4) sv_4
  refine jr_aload_n hX dL_act_0 rfl ?_
  refine jr_getr hX kF_L_41 rfl (sy_k0 hsy) (sy_p0_1 hsy) dL_act_1 ?_
  refine jr_alen (t := 15) hX (by decide) (sy_k5 hsy) dL_act_4 ?_
  refine jr_istore_n hX dL_act_5 rfl ?_
  refine jr_iload_n hX dL_act_6 rfl ?_
  refine jr_aload_n hX dL_act_7 rfl ?_
  refine jr_getr hX kF_L_49 rfl (sy_k0 hsy) (sy_p0_4 hsy) dL_act_8 ?_
  refine jr_alen (t := 10) hX (by decide) (sy_k4 hsy) dL_act_11 ?_
  refine jr_ret (jr_runS hX hSt kM_L_18 (l_below (jj_fl hX) (m := M) (rfl) ⟨by omega, by omega⟩) rfl rfl dL_act_12 rfl ⟨by simp only [jj_N]; omega, by simp only [jj_N]; omega⟩ rfl) ?_
  have hm := bw_lt (v := x) (m := M) (by omega)
  generalize bw x M = m at hm
  refine jr_istore hX dL_act_15 rfl ?_
  refine jr_iload_n hX dL_act_17 rfl ?_
  refine jr_iconst (v := 2) hX dL_act_18 (by decide) ?_
  refine jr_ishr hX dL_act_19 ?_
  refine jr_iload_n hX dL_act_20 rfl ?_
  refine jr_ret (jr_runS hX hSt kM_L_18 (l_below (jj_fl hX) (m := H) (rfl) ⟨by omega, by omega⟩) rfl rfl dL_act_21 rfl ⟨by simp only [jj_N]; omega, by simp only [jj_N]; omega⟩ rfl) ?_
  have hh := bw_lt (v := (x >>> (2 &&& 31))) (m := H) (by omega)
  generalize bw (x >>> (2 &&& 31)) H = h at hh
  refine jr_istore hX dL_act_24 rfl ?_
  refine jr_iload_n hX dL_act_26 rfl ?_
  refine jr_iconst (v := 3) hX dL_act_27 (by decide) ?_
  refine jr_ishr hX dL_act_28 ?_
  refine jr_iconst (v := 4) hX dL_act_29 (by decide) ?_
  refine jr_ret (jr_runS hX hSt kM_L_18 (l_below (jj_fl hX) (m := 4) (show _ = nI 4 from rfl) (by decide)) rfl rfl dL_act_30 rfl ⟨by simp only [jj_N]; omega, by simp only [jj_N]; omega⟩ rfl) ?_
  have hg := bw_lt (v := (x >>> (3 &&& 31))) (m := 4) (by decide)
  generalize bw (x >>> (3 &&& 31)) 4 = g at hg
  refine jr_istore hX dL_act_33 rfl ?_
  refine jr_iload_n hX dL_act_35 rfl ?_
  refine jr_iconst (v := 4) hX dL_act_36 (by decide) ?_
  refine jr_ishr hX dL_act_37 ?_
  refine jr_aload_n hX dL_act_38 rfl ?_
  refine jr_getr hX kF_L_62 rfl (sy_k0 hsy) (sy_p0_6 hsy) dL_act_39 ?_
  refine jr_alen (t := 17) hX (by decide) (sy_k6 hsy) dL_act_42 ?_
  refine jr_ret (jr_runS hX hSt kM_L_18 (l_below (jj_fl hX) (m := B) (rfl) ⟨by omega, by omega⟩) rfl rfl dL_act_43 rfl ⟨by simp only [jj_N]; omega, by simp only [jj_N]; omega⟩ rfl) ?_
  have hb := bw_lt (v := (x >>> (4 &&& 31))) (m := B) (by omega)
  generalize bw (x >>> (4 &&& 31)) B = b at hb
  obtain ⟨q0, q1, q2, q3, q4, q5, q6, q7, q8⟩ := hms.2.2.2.2.2.2.1 b hb
  have est := hms.2.2.2.2.2.2.2.2
  have gS := fun (m h : Nat) (hm : m < 5) (hh : h < 8) => sy_lt hsy (t := 110 + 8 * m + h) (sv_S hsy.1 hm hh)
  have gB := sy_lt hsy (t := 20 + b) (sv_B hsy.1 hb)
  have gG := sy_lt hsy (t := 40 + b) (sv_G hsy.1 hb)
  have hfB := htc.1.2.2.2.2.1 b hb
  refine jr_istore hX dL_act_46 rfl ?_
  refine jr_aload_n hX dL_act_48 rfl ?_
  refine jr_getr hX kF_L_62 rfl (sy_k0 hsy) (sy_p0_6 hsy) dL_act_49 ?_
  refine jr_iload hX dL_act_52 rfl ?_
  refine jr_aald (t := 17) hX (by decide) (sy_k6 hsy) rfl (by omega) (sy_qB hsy (by omega)) dL_act_54 ?_
  refine jr_astore hX dL_act_55 rfl ?_
  refine jr_iload_n hX dL_act_57 rfl ?_
  refine jr_bipush (v := 9) hX dL_act_58 (by decide) ?_
  refine jr_ishr hX dL_act_60 ?_
  refine jr_bipush (v := 10) hX dL_act_61 (by decide) ?_
  refine jr_ret (jr_runS hX hSt kM_L_18 (l_below (jj_fl hX) (m := 10) (show _ = nI 10 from rfl) (by decide)) rfl rfl dL_act_63 rfl ⟨by simp only [jj_N]; omega, by simp only [jj_N]; omega⟩ rfl) ?_
  rw [e9]
  refine jr_tabIn (tgt := 116) hX dL_act_66 (by decide) (by decide) rfl (by decide) ?_
  refine jr_iconst (v := 1) hX dL_act_116 (by decide) ?_
  refine jr_iload_n hX dL_act_117 rfl ?_
  refine jr_iconst (v := 5) hX dL_act_118 (by decide) ?_
  refine jr_ishr hX dL_act_119 ?_
  refine jr_bipush (v := 60) hX dL_act_120 (by decide) ?_
  refine jr_ret (jr_runS hX hSt kM_L_18 (l_below (jj_fl hX) (m := 60) (show _ = nI 60 from rfl) (by decide)) rfl rfl dL_act_122 rfl ⟨by simp only [jj_N]; omega, by simp only [jj_N]; omega⟩ rfl) ?_
  refine jr_iadd hX dL_act_125 ?_
  obtain ⟨y, hy, ey⟩ : ∃ y, (1 ≤ y ∧ y ≤ 60) ∧ y = 1 + bw (x >>> (5 &&& 31)) 60 := ⟨_, ⟨by omega, by have := bw_lt (v := (x >>> (5 &&& 31))) (m := 60) (by omega); omega⟩, rfl⟩
  rw [show (1 : Int32) + nI (bw (x >>> (5 &&& 31)) 60) = nI (1 + bw (x >>> (5 &&& 31)) 60) from nI_add 1 _, ← ey]
  refine jr_istore hX dL_act_126 rfl ?_
  refine jr_aload_n hX dL_act_128 rfl ?_
  refine jr_getr hX kF_L_66 rfl (sy_k0 hsy) (sy_p0_5 hsy) dL_act_129 ?_
  refine jr_iload hX dL_act_132 rfl ?_
  refine jr_aald (t := 16) hX (by decide) (sy_k8 hsy) rfl (by omega) (sy_qM hsy (by omega)) dL_act_134 ?_
  refine jr_iload hX dL_act_135 rfl ?_
  refine jr_aald (t := 15) hX (by decide) (sy_kM hsy (by omega)) rfl (by omega) (sy_qS hsy (by omega) (by omega)) dL_act_137 ?_
  refine jr_iload hX dL_act_138 rfl ?_
  refine jr_dup2 hX dL_act_140 rfl rfl ?_
  refine jr_iald hX (by first | with_reducible assumption | with_reducible exact sy_k0 hsy | with_reducible exact sy_k1 hsy | with_reducible exact sy_k2 hsy | with_reducible exact sy_k3 hsy | with_reducible exact sy_k4 hsy | with_reducible exact sy_k5 hsy | with_reducible exact sy_k6 hsy | with_reducible exact sy_k7 hsy | with_reducible exact sy_k8 hsy | with_reducible exact sy_kH hsy (by first | assumption | omega) | with_reducible exact sy_kB hsy (by first | assumption | omega) | with_reducible exact sy_kG hsy (by first | assumption | omega) | with_reducible exact sy_kD hsy (by first | assumption | omega) | with_reducible exact sy_kM hsy (by first | assumption | omega) | with_reducible exact sy_kS hsy (by first | assumption | omega) (by first | assumption | omega)) (by first | with_reducible rfl | with_reducible assumption | rfl) (by omega) dL_act_141 ?_
  rw [est m (by omega) h (by omega) g hg]
  refine jr_iload hX dL_act_142 rfl ?_
  refine jr_iadd hX dL_act_144 ?_
  refine jr_iast hX (by first | with_reducible assumption | with_reducible exact sy_k0 hsy | with_reducible exact sy_k1 hsy | with_reducible exact sy_k2 hsy | with_reducible exact sy_k3 hsy | with_reducible exact sy_k4 hsy | with_reducible exact sy_k5 hsy | with_reducible exact sy_k6 hsy | with_reducible exact sy_k7 hsy | with_reducible exact sy_k8 hsy | with_reducible exact sy_kH hsy (by first | assumption | omega) | with_reducible exact sy_kB hsy (by first | assumption | omega) | with_reducible exact sy_kG hsy (by first | assumption | omega) | with_reducible exact sy_kD hsy (by first | assumption | omega) | with_reducible exact sy_kM hsy (by first | assumption | omega) | with_reducible exact sy_kS hsy (by first | assumption | omega) (by first | assumption | omega)) (by first | assumption | with_reducible exact sy_z0 hsy | with_reducible exact sy_z1 hsy | with_reducible exact sy_z2 hsy | with_reducible exact sy_z3 hsy | with_reducible exact sy_z4 hsy | with_reducible exact sy_zH hsy (by first | assumption | omega) | with_reducible exact sy_zB hsy (by first | assumption | omega) | with_reducible exact sy_zG hsy (by first | assumption | omega) | with_reducible exact sy_zD hsy (by first | assumption | omega) | with_reducible exact sy_zS hsy (by first | assumption | omega) (by first | assumption | omega) | omega) (by first | with_reducible rfl | with_reducible assumption | rfl) (by omega) dL_act_145 ?_
  refine jr_aload_n hX dL_act_146 rfl ?_
  refine jr_iload hX dL_act_147 rfl ?_
  refine jr_iload hX dL_act_149 rfl ?_
  refine jr_iload hX dL_act_151 rfl ?_
  refine jr_iload hX dL_act_153 rfl ?_
  refine jr_ret (jr_runV hX hSt kM_L_70 (c_bring_ok (jj_fl hX) hly (eqA_sf (eqA_w (fun _ _ => rfl) (gS m h (by omega) (by omega)).1) htc.1) hm hh hg ⟨(by rw [show (1 : Int32) = nI 1 from rfl]; exact nI_le hy.1 (by omega)), by rw [show (100 : Int32) = nI 100 from rfl]; exact nI_le (by omega) (by omega)⟩) rfl rfl (ly_kI hly) ⟨_, _, rfl, by decide⟩ dL_act_155 rfl ⟨by simp only [jj_N]; omega, by simp only [jj_N]; omega⟩ rfl) ?_
  rw [show h * 4 + g = 4 * h + g by omega, jj_u_eq, jj_u_ne (b := aMt 0 m) (a := A (110 + 8 * m + h)) (by have := gS m h (by omega) (by omega); simp only [aMt]; omega)]
  have L1 := la_bring hv ht hm hh hg hy
  have eF : jj_u (jj_u I (A (110 + 8 * m + h)) g (I (aMt 0 m) (4 * h + g) + nI y)) (aMt 0 m) (4 * h + g) (I (aMt 0 m) (4 * h + g) + nI y) (aMt 0 m) (4 * h + g) = I (aMt 0 m) (4 * h + g) + nI y := jj_u_eq
  generalize jj_u (jj_u I (A (110 + 8 * m + h)) g (I (aMt 0 m) (4 * h + g) + nI y)) (aMt 0 m) (4 * h + g) (I (aMt 0 m) (4 * h + g) + nI y) = F at L1 eF
  have es1 := L1.2.2.1.2.2.2.2.2.2.2.2 m (by omega) h (by omega) g hg
  refine jr_aload_n hX dL_act_158 rfl ?_
  refine jr_getr hX kF_L_66 rfl (sy_k0 hsy) (sy_p0_5 hsy) dL_act_159 ?_
  refine jr_iload hX dL_act_162 rfl ?_
  refine jr_aald (t := 16) hX (by decide) (sy_k8 hsy) rfl (by omega) (sy_qM hsy (by omega)) dL_act_164 ?_
  refine jr_iload hX dL_act_165 rfl ?_
  refine jr_aald (t := 15) hX (by decide) (sy_kM hsy (by omega)) rfl (by omega) (sy_qS hsy (by omega) (by omega)) dL_act_167 ?_
  refine jr_iload hX dL_act_168 rfl ?_
  refine jr_iald hX (by first | with_reducible assumption | with_reducible exact sy_k0 hsy | with_reducible exact sy_k1 hsy | with_reducible exact sy_k2 hsy | with_reducible exact sy_k3 hsy | with_reducible exact sy_k4 hsy | with_reducible exact sy_k5 hsy | with_reducible exact sy_k6 hsy | with_reducible exact sy_k7 hsy | with_reducible exact sy_k8 hsy | with_reducible exact sy_kH hsy (by first | assumption | omega) | with_reducible exact sy_kB hsy (by first | assumption | omega) | with_reducible exact sy_kG hsy (by first | assumption | omega) | with_reducible exact sy_kD hsy (by first | assumption | omega) | with_reducible exact sy_kM hsy (by first | assumption | omega) | with_reducible exact sy_kS hsy (by first | assumption | omega) (by first | assumption | omega)) (by first | with_reducible rfl | with_reducible assumption | rfl) (by omega) dL_act_170 ?_
  rw [es1, eF]
  refine jr_icmp_ne (tgt := 178) hX dL_act_171 (by decide) (fun c_171 => absurd c_171 (show ¬ ¬ _ = _ from fun q => q rfl)) (fun c_171 => ?_)
  refine jr_iconst (v := 1) hX dL_act_174 (by decide) ?_
  refine jr_goto (tgt := 179) hX dL_act_175 (by decide) ?_
  exact jr_zret hX (Or.inr rfl) dL_act_179 (Nat.ble_eq.mpr (by first | (dsimp only; omega) | (simp only [jj_N]; omega))) (Nat.ble_eq.mpr (by first | (dsimp only; omega) | (simp only [jj_N]; omega))) ⟨rfl, rfl, A, N, rfl, L1⟩
set_option maxHeartbeats 4000000 in
set_option maxRecDepth 100000 in
theorem l_act_1 {l : Launch} (hfl : l.stackTraces = false) {D : jj_D} {n : Nat} {K : jj_K} {I : jj_I} {P : jj_P} {G : jj_G} {A : Nat → Nat} {H M B N t : Nat} {x : Int32} (hv : lv A H M B N n t K I P) (ht : t + 2 ≤ 512) (e9 : bw (x >>> (9 &&& 31)) 10 = 1) :
    jj_Met l D yL_act (jj_ws yL_act cL_act 16 (some .boolean)) { frames := 9, cells := 2, slots := 38, locals := 159 } [.ref 1, .ref (A 0), .int x] n K I P G (fun r n1 K1 I1 P1 G1 => G1 = G ∧ r = some (.int 1) ∧ ∃ A1 N1, A1 0 = A 0 ∧ lv A1 H M B N1 n1 (t + 2) K1 I1 P1) jj_noX := by
  refine jj_of hfl (by decide +kernel) [some (.ref 1), some (.ref (A 0)), some (.int x), none, none, none, none, none, none, none, none, none, none, none, none, none] rfl rfl ?_
  intro X hXl hX hSt
  obtain ⟨hly, hsy, hms, htc, hdz, hH, hM, hB⟩ := id hv
  obtain ⟨hH8, hM5, hB10, hN30⟩ := id hsy.1
  have g0 := sy_lt hsy (t := 0) sv_0
  have g4 := sy_lt hsy (t := 4) sv_4
  refine jr_aload_n hX dL_act_0 rfl ?_
  refine jr_getr hX kF_L_41 rfl (sy_k0 hsy) (sy_p0_1 hsy) dL_act_1 ?_
  refine jr_alen (t := 15) hX (by decide) (sy_k5 hsy) dL_act_4 ?_
  refine jr_istore_n hX dL_act_5 rfl ?_
  refine jr_iload_n hX dL_act_6 rfl ?_
  refine jr_aload_n hX dL_act_7 rfl ?_
  refine jr_getr hX kF_L_49 rfl (sy_k0 hsy) (sy_p0_4 hsy) dL_act_8 ?_
  refine jr_alen (t := 10) hX (by decide) (sy_k4 hsy) dL_act_11 ?_
  refine jr_ret (jr_runS hX hSt kM_L_18 (l_below (jj_fl hX) (m := M) (rfl) ⟨by omega, by omega⟩) rfl rfl dL_act_12 rfl ⟨by simp only [jj_N]; omega, by simp only [jj_N]; omega⟩ rfl) ?_
  have hm := bw_lt (v := x) (m := M) (by omega)
  generalize bw x M = m at hm
  refine jr_istore hX dL_act_15 rfl ?_
  refine jr_iload_n hX dL_act_17 rfl ?_
  refine jr_iconst (v := 2) hX dL_act_18 (by decide) ?_
  refine jr_ishr hX dL_act_19 ?_
  refine jr_iload_n hX dL_act_20 rfl ?_
  refine jr_ret (jr_runS hX hSt kM_L_18 (l_below (jj_fl hX) (m := H) (rfl) ⟨by omega, by omega⟩) rfl rfl dL_act_21 rfl ⟨by simp only [jj_N]; omega, by simp only [jj_N]; omega⟩ rfl) ?_
  have hh := bw_lt (v := (x >>> (2 &&& 31))) (m := H) (by omega)
  generalize bw (x >>> (2 &&& 31)) H = h at hh
  refine jr_istore hX dL_act_24 rfl ?_
  refine jr_iload_n hX dL_act_26 rfl ?_
  refine jr_iconst (v := 3) hX dL_act_27 (by decide) ?_
  refine jr_ishr hX dL_act_28 ?_
  refine jr_iconst (v := 4) hX dL_act_29 (by decide) ?_
  refine jr_ret (jr_runS hX hSt kM_L_18 (l_below (jj_fl hX) (m := 4) (show _ = nI 4 from rfl) (by decide)) rfl rfl dL_act_30 rfl ⟨by simp only [jj_N]; omega, by simp only [jj_N]; omega⟩ rfl) ?_
  have hg := bw_lt (v := (x >>> (3 &&& 31))) (m := 4) (by decide)
  generalize bw (x >>> (3 &&& 31)) 4 = g at hg
  refine jr_istore hX dL_act_33 rfl ?_
  refine jr_iload_n hX dL_act_35 rfl ?_
  refine jr_iconst (v := 4) hX dL_act_36 (by decide) ?_
  refine jr_ishr hX dL_act_37 ?_
  refine jr_aload_n hX dL_act_38 rfl ?_
  refine jr_getr hX kF_L_62 rfl (sy_k0 hsy) (sy_p0_6 hsy) dL_act_39 ?_
  refine jr_alen (t := 17) hX (by decide) (sy_k6 hsy) dL_act_42 ?_
  refine jr_ret (jr_runS hX hSt kM_L_18 (l_below (jj_fl hX) (m := B) (rfl) ⟨by omega, by omega⟩) rfl rfl dL_act_43 rfl ⟨by simp only [jj_N]; omega, by simp only [jj_N]; omega⟩ rfl) ?_
  have hb := bw_lt (v := (x >>> (4 &&& 31))) (m := B) (by omega)
  generalize bw (x >>> (4 &&& 31)) B = b at hb
  obtain ⟨q0, q1, q2, q3, q4, q5, q6, q7, q8⟩ := hms.2.2.2.2.2.2.1 b hb
  have est := hms.2.2.2.2.2.2.2.2
  have gS := fun (m h : Nat) (hm : m < 5) (hh : h < 8) => sy_lt hsy (t := 110 + 8 * m + h) (sv_S hsy.1 hm hh)
  have gB := sy_lt hsy (t := 20 + b) (sv_B hsy.1 hb)
  have gG := sy_lt hsy (t := 40 + b) (sv_G hsy.1 hb)
  have hfB := htc.1.2.2.2.2.1 b hb
  refine jr_istore hX dL_act_46 rfl ?_
  refine jr_aload_n hX dL_act_48 rfl ?_
  refine jr_getr hX kF_L_62 rfl (sy_k0 hsy) (sy_p0_6 hsy) dL_act_49 ?_
  refine jr_iload hX dL_act_52 rfl ?_
  refine jr_aald (t := 17) hX (by decide) (sy_k6 hsy) rfl (by omega) (sy_qB hsy (by omega)) dL_act_54 ?_
  refine jr_astore hX dL_act_55 rfl ?_
  refine jr_iload_n hX dL_act_57 rfl ?_
  refine jr_bipush (v := 9) hX dL_act_58 (by decide) ?_
  refine jr_ishr hX dL_act_60 ?_
  refine jr_bipush (v := 10) hX dL_act_61 (by decide) ?_
  refine jr_ret (jr_runS hX hSt kM_L_18 (l_below (jj_fl hX) (m := 10) (show _ = nI 10 from rfl) (by decide)) rfl rfl dL_act_63 rfl ⟨by simp only [jj_N]; omega, by simp only [jj_N]; omega⟩ rfl) ?_
  rw [e9]
  refine jr_tabIn (tgt := 116) hX dL_act_66 (by decide) (by decide) rfl (by decide) ?_
  refine jr_iconst (v := 1) hX dL_act_116 (by decide) ?_
  refine jr_iload_n hX dL_act_117 rfl ?_
  refine jr_iconst (v := 5) hX dL_act_118 (by decide) ?_
  refine jr_ishr hX dL_act_119 ?_
  refine jr_bipush (v := 60) hX dL_act_120 (by decide) ?_
  refine jr_ret (jr_runS hX hSt kM_L_18 (l_below (jj_fl hX) (m := 60) (show _ = nI 60 from rfl) (by decide)) rfl rfl dL_act_122 rfl ⟨by simp only [jj_N]; omega, by simp only [jj_N]; omega⟩ rfl) ?_
  refine jr_iadd hX dL_act_125 ?_
  obtain ⟨y, hy, ey⟩ : ∃ y, (1 ≤ y ∧ y ≤ 60) ∧ y = 1 + bw (x >>> (5 &&& 31)) 60 := ⟨_, ⟨by omega, by have := bw_lt (v := (x >>> (5 &&& 31))) (m := 60) (by omega); omega⟩, rfl⟩
  rw [show (1 : Int32) + nI (bw (x >>> (5 &&& 31)) 60) = nI (1 + bw (x >>> (5 &&& 31)) 60) from nI_add 1 _, ← ey]
  refine jr_istore hX dL_act_126 rfl ?_
  refine jr_aload_n hX dL_act_128 rfl ?_
  refine jr_getr hX kF_L_66 rfl (sy_k0 hsy) (sy_p0_5 hsy) dL_act_129 ?_
  refine jr_iload hX dL_act_132 rfl ?_
  refine jr_aald (t := 16) hX (by decide) (sy_k8 hsy) rfl (by omega) (sy_qM hsy (by omega)) dL_act_134 ?_
  refine jr_iload hX dL_act_135 rfl ?_
  refine jr_aald (t := 15) hX (by decide) (sy_kM hsy (by omega)) rfl (by omega) (sy_qS hsy (by omega) (by omega)) dL_act_137 ?_
  refine jr_iload hX dL_act_138 rfl ?_
  refine jr_dup2 hX dL_act_140 rfl rfl ?_
  refine jr_iald hX (by first | with_reducible assumption | with_reducible exact sy_k0 hsy | with_reducible exact sy_k1 hsy | with_reducible exact sy_k2 hsy | with_reducible exact sy_k3 hsy | with_reducible exact sy_k4 hsy | with_reducible exact sy_k5 hsy | with_reducible exact sy_k6 hsy | with_reducible exact sy_k7 hsy | with_reducible exact sy_k8 hsy | with_reducible exact sy_kH hsy (by first | assumption | omega) | with_reducible exact sy_kB hsy (by first | assumption | omega) | with_reducible exact sy_kG hsy (by first | assumption | omega) | with_reducible exact sy_kD hsy (by first | assumption | omega) | with_reducible exact sy_kM hsy (by first | assumption | omega) | with_reducible exact sy_kS hsy (by first | assumption | omega) (by first | assumption | omega)) (by first | with_reducible rfl | with_reducible assumption | rfl) (by omega) dL_act_141 ?_
  rw [est m (by omega) h (by omega) g hg]
  refine jr_iload hX dL_act_142 rfl ?_
  refine jr_iadd hX dL_act_144 ?_
  refine jr_iast hX (by first | with_reducible assumption | with_reducible exact sy_k0 hsy | with_reducible exact sy_k1 hsy | with_reducible exact sy_k2 hsy | with_reducible exact sy_k3 hsy | with_reducible exact sy_k4 hsy | with_reducible exact sy_k5 hsy | with_reducible exact sy_k6 hsy | with_reducible exact sy_k7 hsy | with_reducible exact sy_k8 hsy | with_reducible exact sy_kH hsy (by first | assumption | omega) | with_reducible exact sy_kB hsy (by first | assumption | omega) | with_reducible exact sy_kG hsy (by first | assumption | omega) | with_reducible exact sy_kD hsy (by first | assumption | omega) | with_reducible exact sy_kM hsy (by first | assumption | omega) | with_reducible exact sy_kS hsy (by first | assumption | omega) (by first | assumption | omega)) (by first | assumption | with_reducible exact sy_z0 hsy | with_reducible exact sy_z1 hsy | with_reducible exact sy_z2 hsy | with_reducible exact sy_z3 hsy | with_reducible exact sy_z4 hsy | with_reducible exact sy_zH hsy (by first | assumption | omega) | with_reducible exact sy_zB hsy (by first | assumption | omega) | with_reducible exact sy_zG hsy (by first | assumption | omega) | with_reducible exact sy_zD hsy (by first | assumption | omega) | with_reducible exact sy_zS hsy (by first | assumption | omega) (by first | assumption | omega) | omega) (by first | with_reducible rfl | with_reducible assumption | rfl) (by omega) dL_act_145 ?_
  refine jr_aload_n hX dL_act_146 rfl ?_
  refine jr_iload hX dL_act_147 rfl ?_
  refine jr_iload hX dL_act_149 rfl ?_
  refine jr_iload hX dL_act_151 rfl ?_
  refine jr_iload hX dL_act_153 rfl ?_
  refine jr_ret (jr_runV hX hSt kM_L_70 (c_bring_ok (jj_fl hX) hly (eqA_sf (eqA_w (fun _ _ => rfl) (gS m h (by omega) (by omega)).1) htc.1) hm hh hg ⟨(by rw [show (1 : Int32) = nI 1 from rfl]; exact nI_le hy.1 (by omega)), by rw [show (100 : Int32) = nI 100 from rfl]; exact nI_le (by omega) (by omega)⟩) rfl rfl (ly_kI hly) ⟨_, _, rfl, by decide⟩ dL_act_155 rfl ⟨by simp only [jj_N]; omega, by simp only [jj_N]; omega⟩ rfl) ?_
  rw [show h * 4 + g = 4 * h + g by omega, jj_u_eq, jj_u_ne (b := aMt 0 m) (a := A (110 + 8 * m + h)) (by have := gS m h (by omega) (by omega); simp only [aMt]; omega)]
  have L1 := la_bring hv ht hm hh hg hy
  have eF : jj_u (jj_u I (A (110 + 8 * m + h)) g (I (aMt 0 m) (4 * h + g) + nI y)) (aMt 0 m) (4 * h + g) (I (aMt 0 m) (4 * h + g) + nI y) (aMt 0 m) (4 * h + g) = I (aMt 0 m) (4 * h + g) + nI y := jj_u_eq
  generalize jj_u (jj_u I (A (110 + 8 * m + h)) g (I (aMt 0 m) (4 * h + g) + nI y)) (aMt 0 m) (4 * h + g) (I (aMt 0 m) (4 * h + g) + nI y) = F at L1 eF
  have es1 := L1.2.2.1.2.2.2.2.2.2.2.2 m (by omega) h (by omega) g hg
  refine jr_aload_n hX dL_act_158 rfl ?_
  refine jr_getr hX kF_L_66 rfl (sy_k0 hsy) (sy_p0_5 hsy) dL_act_159 ?_
  refine jr_iload hX dL_act_162 rfl ?_
  refine jr_aald (t := 16) hX (by decide) (sy_k8 hsy) rfl (by omega) (sy_qM hsy (by omega)) dL_act_164 ?_
  refine jr_iload hX dL_act_165 rfl ?_
  refine jr_aald (t := 15) hX (by decide) (sy_kM hsy (by omega)) rfl (by omega) (sy_qS hsy (by omega) (by omega)) dL_act_167 ?_
  refine jr_iload hX dL_act_168 rfl ?_
  refine jr_iald hX (by first | with_reducible assumption | with_reducible exact sy_k0 hsy | with_reducible exact sy_k1 hsy | with_reducible exact sy_k2 hsy | with_reducible exact sy_k3 hsy | with_reducible exact sy_k4 hsy | with_reducible exact sy_k5 hsy | with_reducible exact sy_k6 hsy | with_reducible exact sy_k7 hsy | with_reducible exact sy_k8 hsy | with_reducible exact sy_kH hsy (by first | assumption | omega) | with_reducible exact sy_kB hsy (by first | assumption | omega) | with_reducible exact sy_kG hsy (by first | assumption | omega) | with_reducible exact sy_kD hsy (by first | assumption | omega) | with_reducible exact sy_kM hsy (by first | assumption | omega) | with_reducible exact sy_kS hsy (by first | assumption | omega) (by first | assumption | omega)) (by first | with_reducible rfl | with_reducible assumption | rfl) (by omega) dL_act_170 ?_
  rw [es1, eF]
  refine jr_icmp_ne (tgt := 178) hX dL_act_171 (by decide) (fun c_171 => absurd c_171 (show ¬ ¬ _ = _ from fun q => q rfl)) (fun c_171 => ?_)
  refine jr_iconst (v := 1) hX dL_act_174 (by decide) ?_
  refine jr_goto (tgt := 179) hX dL_act_175 (by decide) ?_
  exact jr_zret hX (Or.inr rfl) dL_act_179 (Nat.ble_eq.mpr (by first | (dsimp only; omega) | (simp only [jj_N]; omega))) (Nat.ble_eq.mpr (by first | (dsimp only; omega) | (simp only [jj_N]; omega))) ⟨rfl, rfl, A, N, rfl, L1⟩
set_option maxHeartbeats 4000000 in
set_option maxRecDepth 100000 in
theorem l_act_2 {l : Launch} (hfl : l.stackTraces = false) {D : jj_D} {n : Nat} {K : jj_K} {I : jj_I} {P : jj_P} {G : jj_G} {A : Nat → Nat} {H M B N t : Nat} {x : Int32} (hv : lv A H M B N n t K I P) (ht : t + 2 ≤ 512) (e9 : bw (x >>> (9 &&& 31)) 10 = 2) :
    jj_Met l D yL_act (jj_ws yL_act cL_act 16 (some .boolean)) { frames := 9, cells := 2, slots := 38, locals := 159 } [.ref 1, .ref (A 0), .int x] n K I P G (fun r n1 K1 I1 P1 G1 => G1 = G ∧ r = some (.int 1) ∧ ∃ A1 N1, A1 0 = A 0 ∧ lv A1 H M B N1 n1 (t + 2) K1 I1 P1) jj_noX := by
  refine jj_of hfl (by decide +kernel) [some (.ref 1), some (.ref (A 0)), some (.int x), none, none, none, none, none, none, none, none, none, none, none, none, none] rfl rfl ?_
  intro X hXl hX hSt
  obtain ⟨hly, hsy, hms, htc, hdz, hH, hM, hB⟩ := id hv
  obtain ⟨hH8, hM5, hB10, hN30⟩ := id hsy.1
  have g0 := sy_lt hsy (t := 0) sv_0
  have g4 := sy_lt hsy (t := 4) sv_4
  refine jr_aload_n hX dL_act_0 rfl ?_
  refine jr_getr hX kF_L_41 rfl (sy_k0 hsy) (sy_p0_1 hsy) dL_act_1 ?_
  refine jr_alen (t := 15) hX (by decide) (sy_k5 hsy) dL_act_4 ?_
  refine jr_istore_n hX dL_act_5 rfl ?_
  refine jr_iload_n hX dL_act_6 rfl ?_
  refine jr_aload_n hX dL_act_7 rfl ?_
  refine jr_getr hX kF_L_49 rfl (sy_k0 hsy) (sy_p0_4 hsy) dL_act_8 ?_
  refine jr_alen (t := 10) hX (by decide) (sy_k4 hsy) dL_act_11 ?_
  refine jr_ret (jr_runS hX hSt kM_L_18 (l_below (jj_fl hX) (m := M) (rfl) ⟨by omega, by omega⟩) rfl rfl dL_act_12 rfl ⟨by simp only [jj_N]; omega, by simp only [jj_N]; omega⟩ rfl) ?_
  have hm := bw_lt (v := x) (m := M) (by omega)
  generalize bw x M = m at hm
  refine jr_istore hX dL_act_15 rfl ?_
  refine jr_iload_n hX dL_act_17 rfl ?_
  refine jr_iconst (v := 2) hX dL_act_18 (by decide) ?_
  refine jr_ishr hX dL_act_19 ?_
  refine jr_iload_n hX dL_act_20 rfl ?_
  refine jr_ret (jr_runS hX hSt kM_L_18 (l_below (jj_fl hX) (m := H) (rfl) ⟨by omega, by omega⟩) rfl rfl dL_act_21 rfl ⟨by simp only [jj_N]; omega, by simp only [jj_N]; omega⟩ rfl) ?_
  have hh := bw_lt (v := (x >>> (2 &&& 31))) (m := H) (by omega)
  generalize bw (x >>> (2 &&& 31)) H = h at hh
  refine jr_istore hX dL_act_24 rfl ?_
  refine jr_iload_n hX dL_act_26 rfl ?_
  refine jr_iconst (v := 3) hX dL_act_27 (by decide) ?_
  refine jr_ishr hX dL_act_28 ?_
  refine jr_iconst (v := 4) hX dL_act_29 (by decide) ?_
  refine jr_ret (jr_runS hX hSt kM_L_18 (l_below (jj_fl hX) (m := 4) (show _ = nI 4 from rfl) (by decide)) rfl rfl dL_act_30 rfl ⟨by simp only [jj_N]; omega, by simp only [jj_N]; omega⟩ rfl) ?_
  have hg := bw_lt (v := (x >>> (3 &&& 31))) (m := 4) (by decide)
  generalize bw (x >>> (3 &&& 31)) 4 = g at hg
  refine jr_istore hX dL_act_33 rfl ?_
  refine jr_iload_n hX dL_act_35 rfl ?_
  refine jr_iconst (v := 4) hX dL_act_36 (by decide) ?_
  refine jr_ishr hX dL_act_37 ?_
  refine jr_aload_n hX dL_act_38 rfl ?_
  refine jr_getr hX kF_L_62 rfl (sy_k0 hsy) (sy_p0_6 hsy) dL_act_39 ?_
  refine jr_alen (t := 17) hX (by decide) (sy_k6 hsy) dL_act_42 ?_
  refine jr_ret (jr_runS hX hSt kM_L_18 (l_below (jj_fl hX) (m := B) (rfl) ⟨by omega, by omega⟩) rfl rfl dL_act_43 rfl ⟨by simp only [jj_N]; omega, by simp only [jj_N]; omega⟩ rfl) ?_
  have hb := bw_lt (v := (x >>> (4 &&& 31))) (m := B) (by omega)
  generalize bw (x >>> (4 &&& 31)) B = b at hb
  obtain ⟨q0, q1, q2, q3, q4, q5, q6, q7, q8⟩ := hms.2.2.2.2.2.2.1 b hb
  have est := hms.2.2.2.2.2.2.2.2
  have gS := fun (m h : Nat) (hm : m < 5) (hh : h < 8) => sy_lt hsy (t := 110 + 8 * m + h) (sv_S hsy.1 hm hh)
  have gB := sy_lt hsy (t := 20 + b) (sv_B hsy.1 hb)
  have gG := sy_lt hsy (t := 40 + b) (sv_G hsy.1 hb)
  have hfB := htc.1.2.2.2.2.1 b hb
  refine jr_istore hX dL_act_46 rfl ?_
  refine jr_aload_n hX dL_act_48 rfl ?_
  refine jr_getr hX kF_L_62 rfl (sy_k0 hsy) (sy_p0_6 hsy) dL_act_49 ?_
  refine jr_iload hX dL_act_52 rfl ?_
  refine jr_aald (t := 17) hX (by decide) (sy_k6 hsy) rfl (by omega) (sy_qB hsy (by omega)) dL_act_54 ?_
  refine jr_astore hX dL_act_55 rfl ?_
  refine jr_iload_n hX dL_act_57 rfl ?_
  refine jr_bipush (v := 9) hX dL_act_58 (by decide) ?_
  refine jr_ishr hX dL_act_60 ?_
  refine jr_bipush (v := 10) hX dL_act_61 (by decide) ?_
  refine jr_ret (jr_runS hX hSt kM_L_18 (l_below (jj_fl hX) (m := 10) (show _ = nI 10 from rfl) (by decide)) rfl rfl dL_act_63 rfl ⟨by simp only [jj_N]; omega, by simp only [jj_N]; omega⟩ rfl) ?_
  rw [e9]
  refine jr_tabIn (tgt := 180) hX dL_act_66 (by decide) (by decide) rfl (by decide) ?_
  refine jr_aload_n hX dL_act_180 rfl ?_
  refine jr_getr hX kF_L_66 rfl (sy_k0 hsy) (sy_p0_5 hsy) dL_act_181 ?_
  refine jr_iload hX dL_act_184 rfl ?_
  refine jr_aald (t := 16) hX (by decide) (sy_k8 hsy) rfl (by omega) (sy_qM hsy (by omega)) dL_act_186 ?_
  refine jr_iload hX dL_act_187 rfl ?_
  refine jr_aald (t := 15) hX (by decide) (sy_kM hsy (by omega)) rfl (by omega) (sy_qS hsy (by omega) (by omega)) dL_act_189 ?_
  refine jr_iload hX dL_act_190 rfl ?_
  refine jr_iald hX (by first | with_reducible assumption | with_reducible exact sy_k0 hsy | with_reducible exact sy_k1 hsy | with_reducible exact sy_k2 hsy | with_reducible exact sy_k3 hsy | with_reducible exact sy_k4 hsy | with_reducible exact sy_k5 hsy | with_reducible exact sy_k6 hsy | with_reducible exact sy_k7 hsy | with_reducible exact sy_k8 hsy | with_reducible exact sy_kH hsy (by first | assumption | omega) | with_reducible exact sy_kB hsy (by first | assumption | omega) | with_reducible exact sy_kG hsy (by first | assumption | omega) | with_reducible exact sy_kD hsy (by first | assumption | omega) | with_reducible exact sy_kM hsy (by first | assumption | omega) | with_reducible exact sy_kS hsy (by first | assumption | omega) (by first | assumption | omega)) (by first | with_reducible rfl | with_reducible assumption | rfl) (by omega) dL_act_192 ?_
  rw [est m (by omega) h (by omega) g hg]
  refine jr_if_ne (tgt := 198) hX dL_act_193 (by decide) (fun c_193 => ?_) (fun c_193 => ?_)
  · obtain ⟨sv, hsv, esv⟩ := tc_st1 htc (show m < 5 by omega) (show 4 * h + g < 32 by omega) c_193
    refine jr_iconst (v := 1) hX dL_act_198 (by decide) ?_
    refine jr_iload_n hX dL_act_199 rfl ?_
    refine jr_iconst (v := 5) hX dL_act_200 (by decide) ?_
    refine jr_ishr hX dL_act_201 ?_
    refine jr_aload_n hX dL_act_202 rfl ?_
    refine jr_getr hX kF_L_66 rfl (sy_k0 hsy) (sy_p0_5 hsy) dL_act_203 ?_
    refine jr_iload hX dL_act_206 rfl ?_
    refine jr_aald (t := 16) hX (by decide) (sy_k8 hsy) rfl (by omega) (sy_qM hsy (by omega)) dL_act_208 ?_
    refine jr_iload hX dL_act_209 rfl ?_
    refine jr_aald (t := 15) hX (by decide) (sy_kM hsy (by omega)) rfl (by omega) (sy_qS hsy (by omega) (by omega)) dL_act_211 ?_
    refine jr_iload hX dL_act_212 rfl ?_
    refine jr_iald hX (by first | with_reducible assumption | with_reducible exact sy_k0 hsy | with_reducible exact sy_k1 hsy | with_reducible exact sy_k2 hsy | with_reducible exact sy_k3 hsy | with_reducible exact sy_k4 hsy | with_reducible exact sy_k5 hsy | with_reducible exact sy_k6 hsy | with_reducible exact sy_k7 hsy | with_reducible exact sy_k8 hsy | with_reducible exact sy_kH hsy (by first | assumption | omega) | with_reducible exact sy_kB hsy (by first | assumption | omega) | with_reducible exact sy_kG hsy (by first | assumption | omega) | with_reducible exact sy_kD hsy (by first | assumption | omega) | with_reducible exact sy_kM hsy (by first | assumption | omega) | with_reducible exact sy_kS hsy (by first | assumption | omega) (by first | assumption | omega)) (by first | with_reducible rfl | with_reducible assumption | rfl) (by omega) dL_act_214 ?_
    rw [est m (by omega) h (by omega) g hg]
    refine jr_ret (jr_runS hX hSt kM_L_18 (l_below (jj_fl hX) (m := sv) (esv) ⟨by omega, by omega⟩) rfl rfl dL_act_215 rfl ⟨by simp only [jj_N]; omega, by simp only [jj_N]; omega⟩ rfl) ?_
    refine jr_iadd hX dL_act_218 ?_
    obtain ⟨y, hy, ey⟩ : ∃ y, (1 ≤ y ∧ y ≤ sv) ∧ y = 1 + bw (x >>> (5 &&& 31)) sv := ⟨_, ⟨by omega, by have := bw_lt (v := (x >>> (5 &&& 31))) (m := sv) (by omega); omega⟩, rfl⟩
    rw [show (1 : Int32) + nI (bw (x >>> (5 &&& 31)) sv) = nI (1 + bw (x >>> (5 &&& 31)) sv) from nI_add 1 _, ← ey]
    refine jr_istore hX dL_act_219 rfl ?_
    refine jr_aload_n hX dL_act_221 rfl ?_
    refine jr_getr hX kF_L_66 rfl (sy_k0 hsy) (sy_p0_5 hsy) dL_act_222 ?_
    refine jr_iload hX dL_act_225 rfl ?_
    refine jr_aald (t := 16) hX (by decide) (sy_k8 hsy) rfl (by omega) (sy_qM hsy (by omega)) dL_act_227 ?_
    refine jr_iload hX dL_act_228 rfl ?_
    refine jr_aald (t := 15) hX (by decide) (sy_kM hsy (by omega)) rfl (by omega) (sy_qS hsy (by omega) (by omega)) dL_act_230 ?_
    refine jr_iload hX dL_act_231 rfl ?_
    refine jr_dup2 hX dL_act_233 rfl rfl ?_
    refine jr_iald hX (by first | with_reducible assumption | with_reducible exact sy_k0 hsy | with_reducible exact sy_k1 hsy | with_reducible exact sy_k2 hsy | with_reducible exact sy_k3 hsy | with_reducible exact sy_k4 hsy | with_reducible exact sy_k5 hsy | with_reducible exact sy_k6 hsy | with_reducible exact sy_k7 hsy | with_reducible exact sy_k8 hsy | with_reducible exact sy_kH hsy (by first | assumption | omega) | with_reducible exact sy_kB hsy (by first | assumption | omega) | with_reducible exact sy_kG hsy (by first | assumption | omega) | with_reducible exact sy_kD hsy (by first | assumption | omega) | with_reducible exact sy_kM hsy (by first | assumption | omega) | with_reducible exact sy_kS hsy (by first | assumption | omega) (by first | assumption | omega)) (by first | with_reducible rfl | with_reducible assumption | rfl) (by omega) dL_act_234 ?_
    rw [est m (by omega) h (by omega) g hg]
    refine jr_iload hX dL_act_235 rfl ?_
    refine jr_isub hX dL_act_237 ?_
    refine jr_iast hX (by first | with_reducible assumption | with_reducible exact sy_k0 hsy | with_reducible exact sy_k1 hsy | with_reducible exact sy_k2 hsy | with_reducible exact sy_k3 hsy | with_reducible exact sy_k4 hsy | with_reducible exact sy_k5 hsy | with_reducible exact sy_k6 hsy | with_reducible exact sy_k7 hsy | with_reducible exact sy_k8 hsy | with_reducible exact sy_kH hsy (by first | assumption | omega) | with_reducible exact sy_kB hsy (by first | assumption | omega) | with_reducible exact sy_kG hsy (by first | assumption | omega) | with_reducible exact sy_kD hsy (by first | assumption | omega) | with_reducible exact sy_kM hsy (by first | assumption | omega) | with_reducible exact sy_kS hsy (by first | assumption | omega) (by first | assumption | omega)) (by first | assumption | with_reducible exact sy_z0 hsy | with_reducible exact sy_z1 hsy | with_reducible exact sy_z2 hsy | with_reducible exact sy_z3 hsy | with_reducible exact sy_z4 hsy | with_reducible exact sy_zH hsy (by first | assumption | omega) | with_reducible exact sy_zB hsy (by first | assumption | omega) | with_reducible exact sy_zG hsy (by first | assumption | omega) | with_reducible exact sy_zD hsy (by first | assumption | omega) | with_reducible exact sy_zS hsy (by first | assumption | omega) (by first | assumption | omega) | omega) (by first | with_reducible rfl | with_reducible assumption | rfl) (by omega) dL_act_238 ?_
    refine jr_aload_n hX dL_act_239 rfl ?_
    refine jr_getr hX kF_L_49 rfl (sy_k0 hsy) (sy_p0_4 hsy) dL_act_240 ?_
    refine jr_iload hX dL_act_243 rfl ?_
    refine jr_dup2 hX dL_act_245 rfl rfl ?_
    refine jr_iald hX (by first | with_reducible assumption | with_reducible exact sy_k0 hsy | with_reducible exact sy_k1 hsy | with_reducible exact sy_k2 hsy | with_reducible exact sy_k3 hsy | with_reducible exact sy_k4 hsy | with_reducible exact sy_k5 hsy | with_reducible exact sy_k6 hsy | with_reducible exact sy_k7 hsy | with_reducible exact sy_k8 hsy | with_reducible exact sy_kH hsy (by first | assumption | omega) | with_reducible exact sy_kB hsy (by first | assumption | omega) | with_reducible exact sy_kG hsy (by first | assumption | omega) | with_reducible exact sy_kD hsy (by first | assumption | omega) | with_reducible exact sy_kM hsy (by first | assumption | omega) | with_reducible exact sy_kS hsy (by first | assumption | omega) (by first | assumption | omega)) (by first | with_reducible rfl | with_reducible assumption | rfl) (by omega) dL_act_246 ?_
    rw [sy_off hsy (sv_S hsy.1 (by omega) (by omega)) sv_4 (by omega), hms.2.2.2.2.1 m hm]
    refine jr_iload hX dL_act_247 rfl ?_
    refine jr_aload_n hX dL_act_249 rfl ?_
    refine jr_getr hX kF_L_41 rfl (sy_k0 hsy) (sy_p0_1 hsy) dL_act_250 ?_
    refine jr_iload hX dL_act_253 rfl ?_
    refine jr_aald (t := 15) hX (by decide) (sy_k5 hsy) rfl (by omega) (sy_qH hsy (by omega)) dL_act_255 ?_
    refine jr_iconst (v := 1) hX dL_act_256 (by decide) ?_
    refine jr_iload hX dL_act_257 rfl ?_
    refine jr_iadd hX dL_act_259 ?_
    refine jr_iald hX (by first | with_reducible assumption | with_reducible exact sy_k0 hsy | with_reducible exact sy_k1 hsy | with_reducible exact sy_k2 hsy | with_reducible exact sy_k3 hsy | with_reducible exact sy_k4 hsy | with_reducible exact sy_k5 hsy | with_reducible exact sy_k6 hsy | with_reducible exact sy_k7 hsy | with_reducible exact sy_k8 hsy | with_reducible exact sy_kH hsy (by first | assumption | omega) | with_reducible exact sy_kB hsy (by first | assumption | omega) | with_reducible exact sy_kG hsy (by first | assumption | omega) | with_reducible exact sy_kD hsy (by first | assumption | omega) | with_reducible exact sy_kM hsy (by first | assumption | omega) | with_reducible exact sy_kS hsy (by first | assumption | omega) (by first | assumption | omega)) (nI_add 1 g) (by omega) dL_act_260 ?_
    rw [sy_off hsy (sv_S hsy.1 (by omega) (by omega)) (sv_H hsy.1 hh) (by omega), (hms.2.2.2.2.2.1 h hh).2 g hg]
    refine jr_imul hX dL_act_261 ?_
    refine jr_iadd hX dL_act_262 ?_
    refine jr_iast hX (by first | with_reducible assumption | with_reducible exact sy_k0 hsy | with_reducible exact sy_k1 hsy | with_reducible exact sy_k2 hsy | with_reducible exact sy_k3 hsy | with_reducible exact sy_k4 hsy | with_reducible exact sy_k5 hsy | with_reducible exact sy_k6 hsy | with_reducible exact sy_k7 hsy | with_reducible exact sy_k8 hsy | with_reducible exact sy_kH hsy (by first | assumption | omega) | with_reducible exact sy_kB hsy (by first | assumption | omega) | with_reducible exact sy_kG hsy (by first | assumption | omega) | with_reducible exact sy_kD hsy (by first | assumption | omega) | with_reducible exact sy_kM hsy (by first | assumption | omega) | with_reducible exact sy_kS hsy (by first | assumption | omega) (by first | assumption | omega)) (by first | assumption | with_reducible exact sy_z0 hsy | with_reducible exact sy_z1 hsy | with_reducible exact sy_z2 hsy | with_reducible exact sy_z3 hsy | with_reducible exact sy_z4 hsy | with_reducible exact sy_zH hsy (by first | assumption | omega) | with_reducible exact sy_zB hsy (by first | assumption | omega) | with_reducible exact sy_zG hsy (by first | assumption | omega) | with_reducible exact sy_zD hsy (by first | assumption | omega) | with_reducible exact sy_zS hsy (by first | assumption | omega) (by first | assumption | omega) | omega) (by first | with_reducible rfl | with_reducible assumption | rfl) (by omega) dL_act_263 ?_
    have he : nI y ≤ I (aMt 0 m) (4 * h + g) := by rw [esv]; exact nI_le hy.2 (by omega)
    have eq : eqA (jj_u (jj_u I (A (110 + 8 * m + h)) g (I (aMt 0 m) (4 * h + g) - nI y)) (A 4) m (I (aM 0 m) 0 + nI y * I (aPr 0) (4 * h + g))) I := eqA_w (eqA_w (fun _ _ => rfl) (gS m h (by omega) (by omega)).1) g4.1
    obtain ⟨L1, -⟩ := la_sell hv ht hm hh hg ⟨hy.1, by omega⟩ he
    refine jr_aload_n hX dL_act_264 rfl ?_
    refine jr_iload hX dL_act_265 rfl ?_
    refine jr_iload hX dL_act_267 rfl ?_
    refine jr_iload hX dL_act_269 rfl ?_
    refine jr_iload hX dL_act_271 rfl ?_
    refine jr_ret (jr_runV hX hSt kM_L_74 (c_sell_ok (jj_fl hX) hly (eqA_sf eq htc.1) hm hh hg (by rw [show (1 : Int32) = nI 1 from rfl]; exact nI_le hy.1 (by omega)) (by rw [eq (aMt 0 m) (by simp only [aMt]; omega), show h * 4 + g = 4 * h + g by omega]; exact he)) rfl rfl (ly_kI hly) ⟨_, _, rfl, by decide⟩ dL_act_273 rfl ⟨by simp only [jj_N]; omega, by simp only [jj_N]; omega⟩ rfl) ?_
    rw [show h * 4 + g = 4 * h + g by omega]
    generalize f_sell m (4 * h + g) (nI y) (jj_u (jj_u I (A (110 + 8 * m + h)) g (I (aMt 0 m) (4 * h + g) - nI y)) (A 4) m (I (aM 0 m) 0 + nI y * I (aPr 0) (4 * h + g))) = F at L1
    have es1 := L1.2.2.1.2.2.2.2.1 m hm
    refine jr_aload_n hX dL_act_276 rfl ?_
    refine jr_getr hX kF_L_49 rfl (sy_k0 hsy) (sy_p0_4 hsy) dL_act_277 ?_
    refine jr_iload hX dL_act_280 rfl ?_
    refine jr_iald hX (by first | with_reducible assumption | with_reducible exact sy_k0 hsy | with_reducible exact sy_k1 hsy | with_reducible exact sy_k2 hsy | with_reducible exact sy_k3 hsy | with_reducible exact sy_k4 hsy | with_reducible exact sy_k5 hsy | with_reducible exact sy_k6 hsy | with_reducible exact sy_k7 hsy | with_reducible exact sy_k8 hsy | with_reducible exact sy_kH hsy (by first | assumption | omega) | with_reducible exact sy_kB hsy (by first | assumption | omega) | with_reducible exact sy_kG hsy (by first | assumption | omega) | with_reducible exact sy_kD hsy (by first | assumption | omega) | with_reducible exact sy_kM hsy (by first | assumption | omega) | with_reducible exact sy_kS hsy (by first | assumption | omega) (by first | assumption | omega)) (by first | with_reducible rfl | with_reducible assumption | rfl) (by omega) dL_act_282 ?_
    rw [es1]
    refine jr_icmp_ne (tgt := 290) hX dL_act_283 (by decide) (fun c_283 => absurd c_283 (show ¬ ¬ _ = _ from fun q => q rfl)) (fun c_283 => ?_)
    refine jr_iconst (v := 1) hX dL_act_286 (by decide) ?_
    refine jr_goto (tgt := 291) hX dL_act_287 (by decide) ?_
    exact jr_zret hX (Or.inr rfl) dL_act_291 (Nat.ble_eq.mpr (by first | (dsimp only; omega) | (simp only [jj_N]; omega))) (Nat.ble_eq.mpr (by first | (dsimp only; omega) | (simp only [jj_N]; omega))) ⟨rfl, rfl, A, N, rfl, L1⟩
  · refine jr_iconst (v := 1) hX dL_act_196 (by decide) ?_
    exact jr_zret hX (Or.inr rfl) dL_act_197 (Nat.ble_eq.mpr (by first | (dsimp only; omega) | (simp only [jj_N]; omega))) (Nat.ble_eq.mpr (by first | (dsimp only; omega) | (simp only [jj_N]; omega))) ⟨rfl, rfl, A, N, rfl, lv_st hv (by omega) ht⟩
