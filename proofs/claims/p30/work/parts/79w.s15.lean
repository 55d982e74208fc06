/-! the law's beginning -/
set_option maxHeartbeats 4000000 in
set_option maxRecDepth 100000 in
theorem lw_begin {X : jj_X} {D : jj_D} {nm : String} {tb : List ExceptionTableEntry} {Q : State → Prop} (hX : jj_Cx X D cL_law RL 29 (some .boolean) nm { frames := 12, cells := 600074, slots := 7301550, locals := 458 } tb) (hSt : jj_St X D) {n cs sl : Nat} {K : jj_K} {I : jj_I} {P : jj_P} {G : jj_G}  (hn : n = 1) (kk : ∀ (A : Nat → Nat) (H M B n1 : Nat) (K1 : jj_K) (I1 : jj_I) (P1 : jj_P), lv A H M B 0 n1 196 K1 I1 P1 → jj_J X D 29 300 4000 Q n1 K1 I1 P1 G 43 [some (.ref (0)), some (.ref (1)), some (.ref (A 0)), some (.int (nI H)), some (.int (nI B)), some (.int (nI M)), some (.int (nI 0)), none, none, none, none, none, none, none, none, none, none, none, none, none, none, none, none, none, none, none, none, none, none] []) :
    jj_J X D 29 (0) (0) Q (n) (K) (I) (P) G 0 [some (.ref (0)), none, none, none, none, none, none, none, none, none, none, none, none, none, none, none, none, none, none, none, none, none, none, none, none, none, none, none, none] [] := by
  subst hn
  refine jr_new hX kN_L_27 dL_law_0 ⟨by dsimp only; omega, by simp only [jj_N]; omega⟩ ?_
  refine jr_dup hX dL_law_3 rfl ?_
  refine jr_relM (jr_runI hX hSt kM_L_149 (c_X5_init (jj_fl hX) (if_pos rfl) rfl) rfl rfl dL_law_4 rfl ⟨by simp only [jj_N]; omega, by simp only [jj_N]; omega⟩ rfl) ?_
  rintro r1 n1 K1 I1 P1 G1 ⟨rfl, rfl, hw, hG1⟩
  obtain rfl : G = G1 := hG1.symm
  simp only [Option.toList, List.nil_append, List.singleton_append, List.cons_append]
  have hly : ly K1 P1 := ⟨fun a kd e => hw.1 a kd (ly_b1 e) e, fun a k q e => hw.2.1 a k q (ly_b2 e) e⟩
  have hc0 := lc0_wx hw
  refine jr_astore_n hX dL_law_7 rfl ?_
  refine jr_aload_n hX dL_law_8 rfl ?_
  refine jr_aload_n hX dL_law_9 rfl ?_
  refine jr_relM (jr_runS hX hSt kM_L_150 (l_build (jj_fl hX) hly (by omega) hc0) rfl rfl dL_law_10 rfl ⟨by simp only [jj_N]; omega, by simp only [jj_N]; omega⟩ rfl) ?_
  rintro r1 n2 K2 I2 P2 G2 ⟨hG2, A, H, M, B, rfl, hH, hM, hB, hly2, hsy, hms2, htc2, hsz, hlw⟩
  obtain rfl : G = G2 := hG2.symm
  simp only [Option.toList, List.nil_append, List.singleton_append, List.cons_append]
  have hv : lv A H M B 0 n2 196 K2 I2 P2 := ⟨hly2, hsy, hms2, htc2, fun d hd => absurd hd (Nat.not_lt_zero _), hH, hM, hB.1, hB.2, fun m hm c _ h2 => hsz m hm c h2, hlw⟩
  refine jr_astore_n hX dL_law_13 rfl ?_
  refine jr_aload_n hX dL_law_14 rfl ?_
  refine jr_ifnonnull (tgt := 20) hX dL_law_15 (by decide) ?_
  refine jr_aload_n hX dL_law_20 rfl ?_
  refine jr_getr hX kF_L_41 rfl (sy_k0 hsy) (sy_p0_1 hsy) dL_law_21 ?_
  refine jr_alen (t := 15) hX (by decide) (sy_k5 hsy) dL_law_24 ?_
  refine jr_istore_n hX dL_law_25 rfl ?_
  refine jr_aload_n hX dL_law_26 rfl ?_
  refine jr_getr hX kF_L_62 rfl (sy_k0 hsy) (sy_p0_6 hsy) dL_law_27 ?_
  refine jr_alen (t := 17) hX (by decide) (sy_k6 hsy) dL_law_30 ?_
  refine jr_istore hX dL_law_31 rfl ?_
  refine jr_aload_n hX dL_law_33 rfl ?_
  refine jr_getr hX kF_L_49 rfl (sy_k0 hsy) (sy_p0_4 hsy) dL_law_34 ?_
  refine jr_alen (t := 10) hX (by decide) (sy_k4 hsy) dL_law_37 ?_
  refine jr_istore hX dL_law_38 rfl ?_
  refine jr_iconst (v := 0) hX dL_law_40 (by decide) ?_
  refine jr_istore hX dL_law_41 rfl ?_
  refine jr_widen (cs1 := 300) (sl1 := 4000) (by first | omega | (dsimp only; omega)) (by simp only [jj_N]; omega) ?_
  exact jr_forget (fun _ _ h => h) (fun i v h => by rcases i with _ | _ | _ | _ | _ | _ | _ | _ | _ | _ | _ | _ | _ | _ | _ | _ | _ | _ | _ | _ | _ | _ | _ | _ | _ | _ | _ | _ | _ | i <;> first | exact h | exact absurd h (by simp)) (kk A H M B n2 K2 I2 P2 hv)
