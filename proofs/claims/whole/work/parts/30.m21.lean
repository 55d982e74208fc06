/-! the model's calls, the rest that makes no row -/
section MV
variable {w H M B N : Nat} {C I : jj_I} {v x : Int32}
theorem frp_eq {k h g a q : Nat} (e0 : C (aD 0 k) 0 = nI a) (e1 : C (aD 0 k) 1 = nI q) (e3 : C (aD 0 k) 3 = nI g) (ha : a < 5) (hq : q < 5) (hg : g < 4) : f_repay k h C = jj_u (f_hd 0 q a (4 * h + g) (C (aD 0 k) 4) C) (aD 0 k) 6 1 := by
  unfold f_repay
  rw [e0, e1, e3, nv_nI (by omega), nv_nI (by omega), nv_nI (by omega), show h * 4 + g = 4 * h + g by omega]
end MV
theorem jm_pos1 {H : Nat} (h : ¬ nI H ≤ 0) : 0 < H := Nat.pos_of_ne_zero (fun e => h (by rw [e]; decide))
theorem jm_zero {H : Nat} (h8 : H ≤ 8) (h : nI H ≤ 0) : ¬ 0 < H := fun e => absurd h (by rw [← nI_0]; exact nI_ge (by omega) (by omega))
set_option maxHeartbeats 4000000 in
set_option maxRecDepth 100000 in
theorem m_addHarbour_x1 {l : Launch} (hfl : l.stackTraces = false) {D : jj_D} {n : Nat} {K : jj_K} {I : jj_I} {P : jj_P} {G : jj_G} (hly : ly K P) {H M B N : Nat} {C : jj_I} {y : Int32} {z : Int32} (hs : sf 0 H M B N C) (hk : sk 0 H M B N C) (hm : ml 0 H M B N C I) (hz : mz M C I) (h_y : y < 1 ∨ 9 < y) :
    jj_Met l D yX6_addHarbour (jj_ws yX6_addHarbour cX6_addHarbour 3 (some .int)) { frames := 1, cells := 0, slots := 0, locals := 22 } [.ref 150, .int y, .int z] n K I P G (jj_R (some (.int 0)) (n) (K) (jj_u (jj_u I 150 0 0) 150 0 1) (P) (G)) jj_noX := by
  refine jj_of hfl (by decide +kernel) [some (.ref 150), some (.int y), some (.int z)] rfl rfl ?_
  intro X hXl hX hSt
  have z := sf_Z hs
  have hm0 : ml 0 H M B N C (jj_u I 150 0 0) := ml_th hm z
  have hz0 : mz M C (jj_u I 150 0 0) := mz_th hz
  have hH0 := hm0.1.1
  have hM0 := hm0.1.2.1
  have hB0 := hm0.1.2.2.1
  have hN0 := hm0.1.2.2.2
  have hH2 := hs.1.2
  have hM2 := z.1
  have hB2 := z.2.1
  have hN2 := z.2.2
  refine jr_aload_n hX dX6_addHarbour_0 rfl ?_
  refine jr_iconst (v := 0) hX dX6_addHarbour_1 (by decide) ?_
  refine jr_puti hX kF_X6_40 rfl (ly_kMo hly) (by decide) dX6_addHarbour_2 ?_
  refine jr_iload_n hX dX6_addHarbour_5 rfl ?_
  refine jr_iconst (v := 1) hX dX6_addHarbour_6 (by decide) ?_
  refine jr_bipush (v := 9) hX dX6_addHarbour_7 (by decide) ?_
  refine jr_ret (jr_runS hX hSt kM_X6_47 (c_isIn_x (jj_fl hX) (jm_nr h_y)) rfl rfl dX6_addHarbour_9 rfl ⟨jj_b1 rfl, jj_b1 rfl⟩ rfl) ?_
  refine jr_if_eq (tgt := 24) hX dX6_addHarbour_12 (by decide) (fun c_12 => ?_) (fun c_12 => absurd rfl c_12)
  refine jr_aload_n hX dX6_addHarbour_24 rfl ?_
  refine jr_iconst (v := 1) hX dX6_addHarbour_25 (by decide) ?_
  refine jr_ret (jr_runV hX hSt kM_X6_57 (c_fail (jj_fl hX) hly) rfl rfl (ly_kMo hly) ⟨_, _, rfl, by decide⟩ dX6_addHarbour_26 rfl ⟨jj_b1 rfl, jj_b1 rfl⟩ rfl) ?_
  exact jr_iret hX dX6_addHarbour_29 rfl rfl ⟨rfl, rfl, rfl, rfl, rfl, rfl⟩
set_option maxHeartbeats 4000000 in
set_option maxRecDepth 100000 in
theorem m_addHarbour_x2 {l : Launch} (hfl : l.stackTraces = false) {D : jj_D} {n : Nat} {K : jj_K} {I : jj_I} {P : jj_P} {G : jj_G} (hly : ly K P) {H M B N : Nat} {C : jj_I} {y : Int32} {z : Int32} (hs : sf 0 H M B N C) (hk : sk 0 H M B N C) (hm : ml 0 H M B N C I) (hz : mz M C I) (h_y : 1 ≤ y ∧ y ≤ 9) (h_z : z < 0 ∨ 5 < z) :
    jj_Met l D yX6_addHarbour (jj_ws yX6_addHarbour cX6_addHarbour 3 (some .int)) { frames := 1, cells := 0, slots := 0, locals := 22 } [.ref 150, .int y, .int z] n K I P G (jj_R (some (.int 0)) (n) (K) (jj_u (jj_u I 150 0 0) 150 0 1) (P) (G)) jj_noX := by
  refine jj_of hfl (by decide +kernel) [some (.ref 150), some (.int y), some (.int z)] rfl rfl ?_
  intro X hXl hX hSt
  have z := sf_Z hs
  have hm0 : ml 0 H M B N C (jj_u I 150 0 0) := ml_th hm z
  have hz0 : mz M C (jj_u I 150 0 0) := mz_th hz
  have hH0 := hm0.1.1
  have hM0 := hm0.1.2.1
  have hB0 := hm0.1.2.2.1
  have hN0 := hm0.1.2.2.2
  have hH2 := hs.1.2
  have hM2 := z.1
  have hB2 := z.2.1
  have hN2 := z.2.2
  refine jr_aload_n hX dX6_addHarbour_0 rfl ?_
  refine jr_iconst (v := 0) hX dX6_addHarbour_1 (by decide) ?_
  refine jr_puti hX kF_X6_40 rfl (ly_kMo hly) (by decide) dX6_addHarbour_2 ?_
  refine jr_iload_n hX dX6_addHarbour_5 rfl ?_
  refine jr_iconst (v := 1) hX dX6_addHarbour_6 (by decide) ?_
  refine jr_bipush (v := 9) hX dX6_addHarbour_7 (by decide) ?_
  refine jr_ret (jr_runS hX hSt kM_X6_47 (c_isIn_ok (jj_fl hX) h_y) rfl rfl dX6_addHarbour_9 rfl ⟨jj_b1 rfl, jj_b1 rfl⟩ rfl) ?_
  refine jr_if_eq (tgt := 24) hX dX6_addHarbour_12 (by decide) (fun c_12 => absurd c_12 (by decide)) (fun c_12 => ?_)
  refine jr_iload_n hX dX6_addHarbour_15 rfl ?_
  refine jr_iconst (v := 0) hX dX6_addHarbour_16 (by decide) ?_
  refine jr_iconst (v := 5) hX dX6_addHarbour_17 (by decide) ?_
  refine jr_ret (jr_runS hX hSt kM_X6_47 (c_isIn_x (jj_fl hX) (jm_nr h_z)) rfl rfl dX6_addHarbour_18 rfl ⟨jj_b1 rfl, jj_b1 rfl⟩ rfl) ?_
  refine jr_if_ne (tgt := 30) hX dX6_addHarbour_21 (by decide) (fun c_21 => absurd rfl c_21) (fun c_21 => ?_)
  refine jr_aload_n hX dX6_addHarbour_24 rfl ?_
  refine jr_iconst (v := 1) hX dX6_addHarbour_25 (by decide) ?_
  refine jr_ret (jr_runV hX hSt kM_X6_57 (c_fail (jj_fl hX) hly) rfl rfl (ly_kMo hly) ⟨_, _, rfl, by decide⟩ dX6_addHarbour_26 rfl ⟨jj_b1 rfl, jj_b1 rfl⟩ rfl) ?_
  exact jr_iret hX dX6_addHarbour_29 rfl rfl ⟨rfl, rfl, rfl, rfl, rfl, rfl⟩
set_option maxHeartbeats 4000000 in
set_option maxRecDepth 100000 in
theorem m_addHarbour_x3 {l : Launch} (hfl : l.stackTraces = false) {D : jj_D} {n : Nat} {K : jj_K} {I : jj_I} {P : jj_P} {G : jj_G} (hly : ly K P) {H M B N : Nat} {C : jj_I} {y : Int32} {z : Int32} (hs : sf 0 H M B N C) (hk : sk 0 H M B N C) (hm : ml 0 H M B N C I) (hz : mz M C I) (h_y : 1 ≤ y ∧ y ≤ 9) (h_z : 0 ≤ z ∧ z ≤ 5) (h_r : H = 8) :
    jj_Met l D yX6_addHarbour (jj_ws yX6_addHarbour cX6_addHarbour 3 (some .int)) { frames := 1, cells := 0, slots := 0, locals := 22 } [.ref 150, .int y, .int z] n K I P G (jj_R (some (.int 0)) (n) (K) (jj_u (jj_u I 150 0 0) 150 0 2) (P) (G)) jj_noX := by
  refine jj_of hfl (by decide +kernel) [some (.ref 150), some (.int y), some (.int z)] rfl rfl ?_
  intro X hXl hX hSt
  have z := sf_Z hs
  have hm0 : ml 0 H M B N C (jj_u I 150 0 0) := ml_th hm z
  have hz0 : mz M C (jj_u I 150 0 0) := mz_th hz
  have hH0 := hm0.1.1
  have hM0 := hm0.1.2.1
  have hB0 := hm0.1.2.2.1
  have hN0 := hm0.1.2.2.2
  have hH2 := hs.1.2
  have hM2 := z.1
  have hB2 := z.2.1
  have hN2 := z.2.2
  refine jr_aload_n hX dX6_addHarbour_0 rfl ?_
  refine jr_iconst (v := 0) hX dX6_addHarbour_1 (by decide) ?_
  refine jr_puti hX kF_X6_40 rfl (ly_kMo hly) (by decide) dX6_addHarbour_2 ?_
  refine jr_iload_n hX dX6_addHarbour_5 rfl ?_
  refine jr_iconst (v := 1) hX dX6_addHarbour_6 (by decide) ?_
  refine jr_bipush (v := 9) hX dX6_addHarbour_7 (by decide) ?_
  refine jr_ret (jr_runS hX hSt kM_X6_47 (c_isIn_ok (jj_fl hX) h_y) rfl rfl dX6_addHarbour_9 rfl ⟨jj_b1 rfl, jj_b1 rfl⟩ rfl) ?_
  refine jr_if_eq (tgt := 24) hX dX6_addHarbour_12 (by decide) (fun c_12 => absurd c_12 (by decide)) (fun c_12 => ?_)
  refine jr_iload_n hX dX6_addHarbour_15 rfl ?_
  refine jr_iconst (v := 0) hX dX6_addHarbour_16 (by decide) ?_
  refine jr_iconst (v := 5) hX dX6_addHarbour_17 (by decide) ?_
  refine jr_ret (jr_runS hX hSt kM_X6_47 (c_isIn_ok (jj_fl hX) h_z) rfl rfl dX6_addHarbour_18 rfl ⟨jj_b1 rfl, jj_b1 rfl⟩ rfl) ?_
  refine jr_if_ne (tgt := 30) hX dX6_addHarbour_21 (by decide) (fun c_21 => ?_) (fun c_21 => absurd c_21 (by decide))
  refine jr_aload_n hX dX6_addHarbour_30 rfl ?_
  refine jr_geti hX kF_X6_44 rfl (ly_kMo hly) dX6_addHarbour_31 ?_
  refine jr_bipush (v := 8) hX dX6_addHarbour_34 (by decide) ?_
  rw [hH0]
  refine jr_icmp_ne (tgt := 45) hX dX6_addHarbour_36 (by decide) (fun c_36 => absurd (by rw [h_r]; rfl) c_36) (fun c_36 => ?_)
  refine jr_aload_n hX dX6_addHarbour_39 rfl ?_
  refine jr_iconst (v := 2) hX dX6_addHarbour_40 (by decide) ?_
  refine jr_ret (jr_runV hX hSt kM_X6_57 (c_fail (jj_fl hX) hly) rfl rfl (ly_kMo hly) ⟨_, _, rfl, by decide⟩ dX6_addHarbour_41 rfl ⟨jj_b1 rfl, jj_b1 rfl⟩ rfl) ?_
  exact jr_iret hX dX6_addHarbour_44 rfl rfl ⟨rfl, rfl, rfl, rfl, rfl, rfl⟩
set_option maxHeartbeats 4000000 in
set_option maxRecDepth 100000 in
theorem m_addHarbour_ok {l : Launch} (hfl : l.stackTraces = false) {D : jj_D} {n : Nat} {K : jj_K} {I : jj_I} {P : jj_P} {G : jj_G} (hly : ly K P) {H M B N : Nat} {C : jj_I} {y : Int32} {z : Int32} (hs : sf 0 H M B N C) (hk : sk 0 H M B N C) (hm : ml 0 H M B N C I) (hz : mz M C I) (h_y : 1 ≤ y ∧ y ≤ 9) (h_z : 0 ≤ z ∧ z ≤ 5) (h_r : H < 8) :
    jj_Met l D yX6_addHarbour (jj_ws yX6_addHarbour cX6_addHarbour 3 (some .int)) { frames := 1, cells := 0, slots := 0, locals := 22 } [.ref 150, .int y, .int z] n K I P G (jj_RS (fun r J => r = some (.int (nI H)) ∧ J 150 0 = 0 ∧ ml 0 (H + 1) M B N (f_gr 0 H y z C) J ∧ mz (M) (f_gr 0 H y z C) J ∧ ∀ a, offN a → J a = I a) n K P G) jj_noX := by
  refine jj_of hfl (by decide +kernel) [some (.ref 150), some (.int y), some (.int z)] rfl rfl ?_
  intro X hXl hX hSt
  have z := sf_Z hs
  have hm0 : ml 0 H M B N C (jj_u I 150 0 0) := ml_th hm z
  have hz0 : mz M C (jj_u I 150 0 0) := mz_th hz
  have hH0 := hm0.1.1
  have hM0 := hm0.1.2.1
  have hB0 := hm0.1.2.2.1
  have hN0 := hm0.1.2.2.2
  have hH2 := hs.1.2
  have hM2 := z.1
  have hB2 := z.2.1
  have hN2 := z.2.2
  refine jr_aload_n hX dX6_addHarbour_0 rfl ?_
  refine jr_iconst (v := 0) hX dX6_addHarbour_1 (by decide) ?_
  refine jr_puti hX kF_X6_40 rfl (ly_kMo hly) (by decide) dX6_addHarbour_2 ?_
  refine jr_iload_n hX dX6_addHarbour_5 rfl ?_
  refine jr_iconst (v := 1) hX dX6_addHarbour_6 (by decide) ?_
  refine jr_bipush (v := 9) hX dX6_addHarbour_7 (by decide) ?_
  refine jr_ret (jr_runS hX hSt kM_X6_47 (c_isIn_ok (jj_fl hX) h_y) rfl rfl dX6_addHarbour_9 rfl ⟨jj_b1 rfl, jj_b1 rfl⟩ rfl) ?_
  refine jr_if_eq (tgt := 24) hX dX6_addHarbour_12 (by decide) (fun c_12 => absurd c_12 (by decide)) (fun c_12 => ?_)
  refine jr_iload_n hX dX6_addHarbour_15 rfl ?_
  refine jr_iconst (v := 0) hX dX6_addHarbour_16 (by decide) ?_
  refine jr_iconst (v := 5) hX dX6_addHarbour_17 (by decide) ?_
  refine jr_ret (jr_runS hX hSt kM_X6_47 (c_isIn_ok (jj_fl hX) h_z) rfl rfl dX6_addHarbour_18 rfl ⟨jj_b1 rfl, jj_b1 rfl⟩ rfl) ?_
  refine jr_if_ne (tgt := 30) hX dX6_addHarbour_21 (by decide) (fun c_21 => ?_) (fun c_21 => absurd c_21 (by decide))
  refine jr_aload_n hX dX6_addHarbour_30 rfl ?_
  refine jr_geti hX kF_X6_44 rfl (ly_kMo hly) dX6_addHarbour_31 ?_
  refine jr_bipush (v := 8) hX dX6_addHarbour_34 (by decide) ?_
  rw [hH0]
  refine jr_icmp_ne (tgt := 45) hX dX6_addHarbour_36 (by decide) (fun c_36 => ?_) (fun c_36 => absurd c_36 (fun e => absurd (jm_n (s := 8) e (by omega) (by omega)) (by omega)))
  refine jr_aload_n hX dX6_addHarbour_45 rfl ?_
  refine jr_geti hX kF_X6_44 rfl (ly_kMo hly) dX6_addHarbour_46 ?_
  rw [hH0]
  refine jr_if_le (tgt := 64) hX dX6_addHarbour_49 (by decide) (fun c_49 => ?_) (fun c_49 => ?_)
  · refine jr_aload_n hX dX6_addHarbour_64 rfl ?_
    refine jr_getr hX kF_X6_16 rfl (ly_kMo hly) (ly_p6_4 hly) dX6_addHarbour_65 ?_
    refine jr_aload_n hX dX6_addHarbour_68 rfl ?_
    refine jr_geti hX kF_X6_44 rfl (ly_kMo hly) dX6_addHarbour_69 ?_
    rw [hH0]
    refine jr_iload_n hX dX6_addHarbour_72 rfl ?_
    refine jr_iast hX (by first | with_reducible assumption | with_reducible exact ly_kWm hly (by first | assumption | omega) | with_reducible exact ly_kLd hly (by first | assumption | omega) | with_reducible exact ly_kIc hly (by first | assumption | omega) | with_reducible exact ly_kBe hly (by first | assumption | omega) | with_reducible exact ly_kPr hly (by first | assumption | omega) | with_reducible exact ly_kMt hly (by first | assumption | omega) (by first | assumption | omega) | with_reducible exact ly_kBc hly (by first | assumption | omega) (by first | assumption | omega) | with_reducible exact ly_k151 hly | with_reducible exact ly_k152 hly | with_reducible exact ly_k153 hly | with_reducible exact ly_k154 hly | with_reducible exact ly_k155 hly | with_reducible exact ly_k156 hly | with_reducible exact ly_k157 hly | with_reducible exact ly_k158 hly | with_reducible exact ly_k159 hly | with_reducible exact ly_k160 hly | with_reducible exact ly_kAh hly (by first | assumption | omega)) (by first | assumption | with_reducible exact aMt_0 | with_reducible exact aBc_0 | with_reducible exact aWm_0 | with_reducible exact aLd_0 | with_reducible exact aIc_0 | with_reducible exact aBe_0 | with_reducible exact aPr_0 | with_reducible exact aAh_0 | decide | omega) (by first | with_reducible rfl | with_reducible assumption | rfl) (by omega) dX6_addHarbour_73 ?_
    refine jr_aload_n hX dX6_addHarbour_74 rfl ?_
    refine jr_dup hX dX6_addHarbour_75 rfl ?_
    refine jr_geti hX kF_X6_44 rfl (ly_kMo hly) dX6_addHarbour_76 ?_
    rw [jj_u_ne (show (150 : Nat) ≠ 153 by decide), hH0]
    refine jr_iconst (v := 1) hX dX6_addHarbour_79 (by decide) ?_
    refine jr_iadd hX dX6_addHarbour_80 ?_
    rw [nI_1]
    refine jr_puti hX kF_X6_44 rfl (ly_kMo hly) (by decide) dX6_addHarbour_81 ?_
    refine jr_aload_n hX dX6_addHarbour_84 rfl ?_
    refine jr_geti hX kF_X6_44 rfl (ly_kMo hly) dX6_addHarbour_85 ?_
    rw [jj_u_eq]
    refine jr_iconst (v := 1) hX dX6_addHarbour_88 (by decide) ?_
    refine jr_isub hX dX6_addHarbour_89 ?_
    rw [nI_pred]
    exact jr_iret hX dX6_addHarbour_90 rfl rfl ⟨⟨rfl, by rw [jj_u_nk (by decide), jj_u_ne (by decide), jj_u_eq], by unfold f_gr; rw [if_neg (jm_zero hH2 c_49)]; exact ml_uH (ml_uBer hm0 z) z, mz_cg hz0 (fun m _ _ => by rw [jj_u_ne (by decide), jj_u_ne (by decide)]) (fun m k _ _ _ => by rw [jj_u_ne (by decide), jj_u_ne (by decide)]) (fun m _ _ => by unfold f_gr; rw [if_neg (jm_zero hH2 c_49), jj_u_ne (by simp only [aMt, aR]; omega), jj_u_ne (by simp only [aMt, aBe]; omega)]), fun a ha => (jj_u_ne (by unfold offN at ha; omega)).trans ((jj_u_ne (by unfold offN at ha; omega)).trans (jj_u_ne (by unfold offN at ha; omega)))⟩, rfl, rfl, rfl, rfl⟩
  · refine jr_aload_n hX dX6_addHarbour_52 rfl ?_
    refine jr_getr hX kF_X6_13 rfl (ly_kMo hly) (ly_p6_3 hly) dX6_addHarbour_53 ?_
    refine jr_aload_n hX dX6_addHarbour_56 rfl ?_
    refine jr_geti hX kF_X6_44 rfl (ly_kMo hly) dX6_addHarbour_57 ?_
    rw [hH0]
    refine jr_iconst (v := 1) hX dX6_addHarbour_60 (by decide) ?_
    refine jr_isub hX dX6_addHarbour_61 ?_
    rw [jm_sub1 (jm_pos1 c_49)]
    refine jr_iload_n hX dX6_addHarbour_62 rfl ?_
    refine jr_iast hX (by first | with_reducible assumption | with_reducible exact ly_kWm hly (by first | assumption | omega) | with_reducible exact ly_kLd hly (by first | assumption | omega) | with_reducible exact ly_kIc hly (by first | assumption | omega) | with_reducible exact ly_kBe hly (by first | assumption | omega) | with_reducible exact ly_kPr hly (by first | assumption | omega) | with_reducible exact ly_kMt hly (by first | assumption | omega) (by first | assumption | omega) | with_reducible exact ly_kBc hly (by first | assumption | omega) (by first | assumption | omega) | with_reducible exact ly_k151 hly | with_reducible exact ly_k152 hly | with_reducible exact ly_k153 hly | with_reducible exact ly_k154 hly | with_reducible exact ly_k155 hly | with_reducible exact ly_k156 hly | with_reducible exact ly_k157 hly | with_reducible exact ly_k158 hly | with_reducible exact ly_k159 hly | with_reducible exact ly_k160 hly | with_reducible exact ly_kAh hly (by first | assumption | omega)) (by first | assumption | with_reducible exact aMt_0 | with_reducible exact aBc_0 | with_reducible exact aWm_0 | with_reducible exact aLd_0 | with_reducible exact aIc_0 | with_reducible exact aBe_0 | with_reducible exact aPr_0 | with_reducible exact aAh_0 | decide | omega) (by first | with_reducible rfl | with_reducible assumption | rfl) (by omega) dX6_addHarbour_63 ?_
    refine jr_aload_n hX dX6_addHarbour_64 rfl ?_
    refine jr_getr hX kF_X6_16 rfl (ly_kMo hly) (ly_p6_4 hly) dX6_addHarbour_65 ?_
    refine jr_aload_n hX dX6_addHarbour_68 rfl ?_
    refine jr_geti hX kF_X6_44 rfl (ly_kMo hly) dX6_addHarbour_69 ?_
    rw [jj_u_ne (show (150 : Nat) ≠ 152 by decide), hH0]
    refine jr_iload_n hX dX6_addHarbour_72 rfl ?_
    refine jr_iast hX (by first | with_reducible assumption | with_reducible exact ly_kWm hly (by first | assumption | omega) | with_reducible exact ly_kLd hly (by first | assumption | omega) | with_reducible exact ly_kIc hly (by first | assumption | omega) | with_reducible exact ly_kBe hly (by first | assumption | omega) | with_reducible exact ly_kPr hly (by first | assumption | omega) | with_reducible exact ly_kMt hly (by first | assumption | omega) (by first | assumption | omega) | with_reducible exact ly_kBc hly (by first | assumption | omega) (by first | assumption | omega) | with_reducible exact ly_k151 hly | with_reducible exact ly_k152 hly | with_reducible exact ly_k153 hly | with_reducible exact ly_k154 hly | with_reducible exact ly_k155 hly | with_reducible exact ly_k156 hly | with_reducible exact ly_k157 hly | with_reducible exact ly_k158 hly | with_reducible exact ly_k159 hly | with_reducible exact ly_k160 hly | with_reducible exact ly_kAh hly (by first | assumption | omega)) (by first | assumption | with_reducible exact aMt_0 | with_reducible exact aBc_0 | with_reducible exact aWm_0 | with_reducible exact aLd_0 | with_reducible exact aIc_0 | with_reducible exact aBe_0 | with_reducible exact aPr_0 | with_reducible exact aAh_0 | decide | omega) (by first | with_reducible rfl | with_reducible assumption | rfl) (by omega) dX6_addHarbour_73 ?_
    refine jr_aload_n hX dX6_addHarbour_74 rfl ?_
    refine jr_dup hX dX6_addHarbour_75 rfl ?_
    refine jr_geti hX kF_X6_44 rfl (ly_kMo hly) dX6_addHarbour_76 ?_
    rw [jj_u_ne (show (150 : Nat) ≠ 153 by decide), jj_u_ne (show (150 : Nat) ≠ 152 by decide), hH0]
    refine jr_iconst (v := 1) hX dX6_addHarbour_79 (by decide) ?_
    refine jr_iadd hX dX6_addHarbour_80 ?_
    rw [nI_1]
    refine jr_puti hX kF_X6_44 rfl (ly_kMo hly) (by decide) dX6_addHarbour_81 ?_
    refine jr_aload_n hX dX6_addHarbour_84 rfl ?_
    refine jr_geti hX kF_X6_44 rfl (ly_kMo hly) dX6_addHarbour_85 ?_
    rw [jj_u_eq]
    refine jr_iconst (v := 1) hX dX6_addHarbour_88 (by decide) ?_
    refine jr_isub hX dX6_addHarbour_89 ?_
    rw [nI_pred]
    exact jr_iret hX dX6_addHarbour_90 rfl rfl ⟨⟨rfl, by rw [jj_u_nk (by decide), jj_u_ne (by decide), jj_u_ne (by decide), jj_u_eq], by unfold f_gr; rw [if_pos (jm_pos1 c_49)]; exact ml_uH (ml_uBer (ml_uLeg hm0 z) z) z, mz_cg hz0 (fun m _ _ => by rw [jj_u_ne (by decide), jj_u_ne (by decide), jj_u_ne (by decide)]) (fun m k _ _ _ => by rw [jj_u_ne (by decide), jj_u_ne (by decide), jj_u_ne (by decide)]) (fun m _ _ => by unfold f_gr; rw [if_pos (jm_pos1 c_49), jj_u_ne (by simp only [aMt, aR]; omega), jj_u_ne (by simp only [aMt, aBe]; omega), jj_u_ne (by simp only [aMt, aLd]; omega)]), fun a ha => (jj_u_ne (by unfold offN at ha; omega)).trans ((jj_u_ne (by unfold offN at ha; omega)).trans ((jj_u_ne (by unfold offN at ha; omega)).trans (jj_u_ne (by unfold offN at ha; omega))))⟩, rfl, rfl, rfl, rfl⟩
set_option maxHeartbeats 4000000 in
set_option maxRecDepth 100000 in
theorem m_send_x1 {l : Launch} (hfl : l.stackTraces = false) {D : jj_D} {n : Nat} {K : jj_K} {I : jj_I} {P : jj_P} {G : jj_G} (hly : ly K P) {H M B N : Nat} {C : jj_I} {b : Int32} {h : Int32} (hs : sf 0 H M B N C) (hk : sk 0 H M B N C) (hm : ml 0 H M B N C I) (hz : mz M C I) (h_b : b < 0 ∨ nI B ≤ b) :
    jj_Met l D yX6_send (jj_ws yX6_send cX6_send 3 (some .int)) { frames := 2, cells := 0, slots := 0, locals := 45 } [.ref 150, .int b, .int h] n K I P G (jj_R (some (.int 0)) (n) (K) (jj_u (jj_u I 150 0 0) 150 0 1) (P) (G)) jj_noX := by
  refine jj_of hfl (by decide +kernel) [some (.ref 150), some (.int b), some (.int h)] rfl rfl ?_
  intro X hXl hX hSt
  have z := sf_Z hs
  have hm0 : ml 0 H M B N C (jj_u I 150 0 0) := ml_th hm z
  have hz0 : mz M C (jj_u I 150 0 0) := mz_th hz
  have hH0 := hm0.1.1
  have hM0 := hm0.1.2.1
  have hB0 := hm0.1.2.2.1
  have hN0 := hm0.1.2.2.2
  have hH2 := hs.1.2
  have hM2 := z.1
  have hB2 := z.2.1
  have hN2 := z.2.2
  refine jr_aload_n hX dX6_send_0 rfl ?_
  refine jr_iconst (v := 0) hX dX6_send_1 (by decide) ?_
  refine jr_puti hX kF_X6_40 rfl (ly_kMo hly) (by decide) dX6_send_2 ?_
  refine jr_aload_n hX dX6_send_5 rfl ?_
  refine jr_iload_n hX dX6_send_6 rfl ?_
  refine jr_ret (jr_runV hX hSt kM_X6_121 (c_isBoat_x (jj_fl hX) hly h_b hB0 (by omega)) rfl rfl (ly_kMo hly) ⟨_, _, rfl, by decide⟩ dX6_send_7 rfl ⟨jj_b1 rfl, jj_b1 rfl⟩ rfl) ?_
  refine jr_if_eq (tgt := 21) hX dX6_send_10 (by decide) (fun c_10 => ?_) (fun c_10 => absurd rfl c_10)
  refine jr_aload_n hX dX6_send_21 rfl ?_
  refine jr_iconst (v := 1) hX dX6_send_22 (by decide) ?_
  refine jr_ret (jr_runV hX hSt kM_X6_57 (c_fail (jj_fl hX) hly) rfl rfl (ly_kMo hly) ⟨_, _, rfl, by decide⟩ dX6_send_23 rfl ⟨jj_b1 rfl, jj_b1 rfl⟩ rfl) ?_
  exact jr_iret hX dX6_send_26 rfl rfl ⟨rfl, rfl, rfl, rfl, rfl, rfl⟩
set_option maxHeartbeats 4000000 in
set_option maxRecDepth 100000 in
theorem m_send_x2 {l : Launch} (hfl : l.stackTraces = false) {D : jj_D} {n : Nat} {K : jj_K} {I : jj_I} {P : jj_P} {G : jj_G} (hly : ly K P) {H M B N : Nat} {C : jj_I} {b : Nat} {h : Int32} (hs : sf 0 H M B N C) (hk : sk 0 H M B N C) (hm : ml 0 H M B N C I) (hz : mz M C I) (h_b : b < B) (h_h : h < 0 ∨ nI H ≤ h) :
    jj_Met l D yX6_send (jj_ws yX6_send cX6_send 3 (some .int)) { frames := 2, cells := 0, slots := 0, locals := 45 } [.ref 150, .int (nI b), .int h] n K I P G (jj_R (some (.int 0)) (n) (K) (jj_u (jj_u I 150 0 0) 150 0 1) (P) (G)) jj_noX := by
  refine jj_of hfl (by decide +kernel) [some (.ref 150), some (.int (nI b)), some (.int h)] rfl rfl ?_
  intro X hXl hX hSt
  have z := sf_Z hs
  have hm0 : ml 0 H M B N C (jj_u I 150 0 0) := ml_th hm z
  have hz0 : mz M C (jj_u I 150 0 0) := mz_th hz
  have hH0 := hm0.1.1
  have hM0 := hm0.1.2.1
  have hB0 := hm0.1.2.2.1
  have hN0 := hm0.1.2.2.2
  have hH2 := hs.1.2
  have hM2 := z.1
  have hB2 := z.2.1
  have hN2 := z.2.2
  obtain ⟨⟨o_, ho_, eo_⟩, hp, h4, hl, ⟨g0, hg0, eg0⟩⟩ := hs.2.2.2.2.1 b h_b
  obtain ⟨o, ho, eo⟩ := (hk.2.1 b h_b).2
  obtain ⟨st0, st1, st2, st3, st4, st5, st6, st7, st8⟩ := ml_hB hm0 h_b
  refine jr_aload_n hX dX6_send_0 rfl ?_
  refine jr_iconst (v := 0) hX dX6_send_1 (by decide) ?_
  refine jr_puti hX kF_X6_40 rfl (ly_kMo hly) (by decide) dX6_send_2 ?_
  refine jr_aload_n hX dX6_send_5 rfl ?_
  refine jr_iload_n hX dX6_send_6 rfl ?_
  refine jr_ret (jr_runV hX hSt kM_X6_121 (c_isBoat_ok (jj_fl hX) hly h_b hB0 (by omega)) rfl rfl (ly_kMo hly) ⟨_, _, rfl, by decide⟩ dX6_send_7 rfl ⟨jj_b1 rfl, jj_b1 rfl⟩ rfl) ?_
  refine jr_if_eq (tgt := 21) hX dX6_send_10 (by decide) (fun c_10 => absurd c_10 (by decide)) (fun c_10 => ?_)
  refine jr_aload_n hX dX6_send_13 rfl ?_
  refine jr_iload_n hX dX6_send_14 rfl ?_
  refine jr_ret (jr_runV hX hSt kM_X6_61 (c_isHarbour_x (jj_fl hX) hly h_h hH0 (by omega)) rfl rfl (ly_kMo hly) ⟨_, _, rfl, by decide⟩ dX6_send_15 rfl ⟨jj_b1 rfl, jj_b1 rfl⟩ rfl) ?_
  refine jr_if_ne (tgt := 27) hX dX6_send_18 (by decide) (fun c_18 => absurd rfl c_18) (fun c_18 => ?_)
  refine jr_aload_n hX dX6_send_21 rfl ?_
  refine jr_iconst (v := 1) hX dX6_send_22 (by decide) ?_
  refine jr_ret (jr_runV hX hSt kM_X6_57 (c_fail (jj_fl hX) hly) rfl rfl (ly_kMo hly) ⟨_, _, rfl, by decide⟩ dX6_send_23 rfl ⟨jj_b1 rfl, jj_b1 rfl⟩ rfl) ?_
  exact jr_iret hX dX6_send_26 rfl rfl ⟨rfl, rfl, rfl, rfl, rfl, rfl⟩
set_option maxHeartbeats 4000000 in
set_option maxRecDepth 100000 in
theorem m_send_x3 {l : Launch} (hfl : l.stackTraces = false) {D : jj_D} {n : Nat} {K : jj_K} {I : jj_I} {P : jj_P} {G : jj_G} (hly : ly K P) {H M B N : Nat} {C : jj_I} {b : Nat} {h : Nat} (hs : sf 0 H M B N C) (hk : sk 0 H M B N C) (hm : ml 0 H M B N C I) (hz : mz M C I) (h_b : b < B) (h_h : h < H) (h_s : C (aB 0 b) 3 = 3) :
    jj_Met l D yX6_send (jj_ws yX6_send cX6_send 3 (some .int)) { frames := 2, cells := 0, slots := 0, locals := 45 } [.ref 150, .int (nI b), .int (nI h)] n K I P G (jj_R (some (.int 0)) (n) (K) (jj_u (jj_u I 150 0 0) 150 0 2) (P) (G)) jj_noX := by
  refine jj_of hfl (by decide +kernel) [some (.ref 150), some (.int (nI b)), some (.int (nI h))] rfl rfl ?_
  intro X hXl hX hSt
  have z := sf_Z hs
  have hm0 : ml 0 H M B N C (jj_u I 150 0 0) := ml_th hm z
  have hz0 : mz M C (jj_u I 150 0 0) := mz_th hz
  have hH0 := hm0.1.1
  have hM0 := hm0.1.2.1
  have hB0 := hm0.1.2.2.1
  have hN0 := hm0.1.2.2.2
  have hH2 := hs.1.2
  have hM2 := z.1
  have hB2 := z.2.1
  have hN2 := z.2.2
  obtain ⟨⟨o_, ho_, eo_⟩, hp, h4, hl, ⟨g0, hg0, eg0⟩⟩ := hs.2.2.2.2.1 b h_b
  obtain ⟨o, ho, eo⟩ := (hk.2.1 b h_b).2
  obtain ⟨st0, st1, st2, st3, st4, st5, st6, st7, st8⟩ := ml_hB hm0 h_b
  refine jr_aload_n hX dX6_send_0 rfl ?_
  refine jr_iconst (v := 0) hX dX6_send_1 (by decide) ?_
  refine jr_puti hX kF_X6_40 rfl (ly_kMo hly) (by decide) dX6_send_2 ?_
  refine jr_aload_n hX dX6_send_5 rfl ?_
  refine jr_iload_n hX dX6_send_6 rfl ?_
  refine jr_ret (jr_runV hX hSt kM_X6_121 (c_isBoat_ok (jj_fl hX) hly h_b hB0 (by omega)) rfl rfl (ly_kMo hly) ⟨_, _, rfl, by decide⟩ dX6_send_7 rfl ⟨jj_b1 rfl, jj_b1 rfl⟩ rfl) ?_
  refine jr_if_eq (tgt := 21) hX dX6_send_10 (by decide) (fun c_10 => absurd c_10 (by decide)) (fun c_10 => ?_)
  refine jr_aload_n hX dX6_send_13 rfl ?_
  refine jr_iload_n hX dX6_send_14 rfl ?_
  refine jr_ret (jr_runV hX hSt kM_X6_61 (c_isHarbour_ok (jj_fl hX) hly h_h hH0 (by omega)) rfl rfl (ly_kMo hly) ⟨_, _, rfl, by decide⟩ dX6_send_15 rfl ⟨jj_b1 rfl, jj_b1 rfl⟩ rfl) ?_
  refine jr_if_ne (tgt := 27) hX dX6_send_18 (by decide) (fun c_18 => ?_) (fun c_18 => absurd c_18 (by decide))
  refine jr_aload_n hX dX6_send_27 rfl ?_
  refine jr_iload_n hX dX6_send_28 rfl ?_
  refine jr_iconst (v := 3) hX dX6_send_29 (by decide) ?_
  refine jr_ret (jr_runV hX hSt kM_X6_74 (c_bo (jj_fl hX) hly (b := b) (k := 3) (by omega) (show _ = nI 3 from rfl) (by decide)) rfl rfl (ly_kMo hly) ⟨_, _, rfl, by decide⟩ dX6_send_30 rfl ⟨jj_b1 rfl, jj_b1 rfl⟩ rfl) ?_
  rw [st3]
  refine jr_iconst (v := 3) hX dX6_send_33 (by decide) ?_
  refine jr_icmp_ne (tgt := 43) hX dX6_send_34 (by decide) (fun c_34 => absurd h_s c_34) (fun c_34 => ?_)
  refine jr_aload_n hX dX6_send_37 rfl ?_
  refine jr_iconst (v := 2) hX dX6_send_38 (by decide) ?_
  refine jr_ret (jr_runV hX hSt kM_X6_57 (c_fail (jj_fl hX) hly) rfl rfl (ly_kMo hly) ⟨_, _, rfl, by decide⟩ dX6_send_39 rfl ⟨jj_b1 rfl, jj_b1 rfl⟩ rfl) ?_
  exact jr_iret hX dX6_send_42 rfl rfl ⟨rfl, rfl, rfl, rfl, rfl, rfl⟩
set_option maxHeartbeats 4000000 in
set_option maxRecDepth 100000 in
theorem m_send_ok {l : Launch} (hfl : l.stackTraces = false) {D : jj_D} {n : Nat} {K : jj_K} {I : jj_I} {P : jj_P} {G : jj_G} (hly : ly K P) {H M B N : Nat} {C : jj_I} {b : Nat} {h : Nat} (hs : sf 0 H M B N C) (hk : sk 0 H M B N C) (hm : ml 0 H M B N C I) (hz : mz M C I) (h_b : b < B) (h_h : h < H) (h_s : ¬ C (aB 0 b) 3 = 3) :
    jj_Met l D yX6_send (jj_ws yX6_send cX6_send 3 (some .int)) { frames := 2, cells := 0, slots := 0, locals := 45 } [.ref 150, .int (nI b), .int (nI h)] n K I P G (jj_RS (fun r J => r = some (.int (jj_u C (aB 0 b) 6 (nI h) (aB 0 b) 7 + f_wd 0 (nv (C (aB 0 b) 4)) h (jj_u C (aB 0 b) 6 (nI h)))) ∧ J 150 0 = 0 ∧ ml 0 H M B N (jj_u C (aB 0 b) 6 (nI h)) J ∧ mz (M) (jj_u C (aB 0 b) 6 (nI h)) J ∧ ∀ a, offN a → J a = I a) n K P G) jj_noX := by
  refine jj_of hfl (by decide +kernel) [some (.ref 150), some (.int (nI b)), some (.int (nI h))] rfl rfl ?_
  intro X hXl hX hSt
  have z := sf_Z hs
  have hm0 : ml 0 H M B N C (jj_u I 150 0 0) := ml_th hm z
  have hz0 : mz M C (jj_u I 150 0 0) := mz_th hz
  have hH0 := hm0.1.1
  have hM0 := hm0.1.2.1
  have hB0 := hm0.1.2.2.1
  have hN0 := hm0.1.2.2.2
  have hH2 := hs.1.2
  have hM2 := z.1
  have hB2 := z.2.1
  have hN2 := z.2.2
  obtain ⟨⟨o_, ho_, eo_⟩, hp, h4, hl, ⟨g0, hg0, eg0⟩⟩ := hs.2.2.2.2.1 b h_b
  obtain ⟨o, ho, eo⟩ := (hk.2.1 b h_b).2
  obtain ⟨st0, st1, st2, st3, st4, st5, st6, st7, st8⟩ := ml_hB hm0 h_b
  obtain ⟨h0, hh0, eh0⟩ := h4 h_s
  have mg := ml_uGoal (v := nI h) hm0 z h_b
  refine jr_aload_n hX dX6_send_0 rfl ?_
  refine jr_iconst (v := 0) hX dX6_send_1 (by decide) ?_
  refine jr_puti hX kF_X6_40 rfl (ly_kMo hly) (by decide) dX6_send_2 ?_
  refine jr_aload_n hX dX6_send_5 rfl ?_
  refine jr_iload_n hX dX6_send_6 rfl ?_
  refine jr_ret (jr_runV hX hSt kM_X6_121 (c_isBoat_ok (jj_fl hX) hly h_b hB0 (by omega)) rfl rfl (ly_kMo hly) ⟨_, _, rfl, by decide⟩ dX6_send_7 rfl ⟨jj_b1 rfl, jj_b1 rfl⟩ rfl) ?_
  refine jr_if_eq (tgt := 21) hX dX6_send_10 (by decide) (fun c_10 => absurd c_10 (by decide)) (fun c_10 => ?_)
  refine jr_aload_n hX dX6_send_13 rfl ?_
  refine jr_iload_n hX dX6_send_14 rfl ?_
  refine jr_ret (jr_runV hX hSt kM_X6_61 (c_isHarbour_ok (jj_fl hX) hly h_h hH0 (by omega)) rfl rfl (ly_kMo hly) ⟨_, _, rfl, by decide⟩ dX6_send_15 rfl ⟨jj_b1 rfl, jj_b1 rfl⟩ rfl) ?_
  refine jr_if_ne (tgt := 27) hX dX6_send_18 (by decide) (fun c_18 => ?_) (fun c_18 => absurd c_18 (by decide))
  refine jr_aload_n hX dX6_send_27 rfl ?_
  refine jr_iload_n hX dX6_send_28 rfl ?_
  refine jr_iconst (v := 3) hX dX6_send_29 (by decide) ?_
  refine jr_ret (jr_runV hX hSt kM_X6_74 (c_bo (jj_fl hX) hly (b := b) (k := 3) (by omega) (show _ = nI 3 from rfl) (by decide)) rfl rfl (ly_kMo hly) ⟨_, _, rfl, by decide⟩ dX6_send_30 rfl ⟨jj_b1 rfl, jj_b1 rfl⟩ rfl) ?_
  rw [st3]
  refine jr_iconst (v := 3) hX dX6_send_33 (by decide) ?_
  refine jr_icmp_ne (tgt := 43) hX dX6_send_34 (by decide) (fun c_34 => ?_) (fun c_34 => absurd c_34 h_s)
  refine jr_aload_n hX dX6_send_43 rfl ?_
  refine jr_iload_n hX dX6_send_44 rfl ?_
  refine jr_iconst (v := 5) hX dX6_send_45 (by decide) ?_
  refine jr_iload_n hX dX6_send_46 rfl ?_
  refine jr_void (jr_runV hX hSt kM_X6_124 (c_setBo (jj_fl hX) hly (b := b) (k := 5) (by omega) (show _ = nI 5 from rfl) (by decide)) rfl rfl (ly_kMo hly) ⟨_, _, rfl, by decide⟩ dX6_send_47 rfl ⟨jj_b1 rfl, jj_b1 rfl⟩ rfl) ?_
  refine jr_aload_n hX dX6_send_50 rfl ?_
  refine jr_iload_n hX dX6_send_51 rfl ?_
  refine jr_bipush (v := 6) hX dX6_send_52 (by decide) ?_
  refine jr_ret (jr_runV hX hSt kM_X6_74 (c_bo (jj_fl hX) hly (b := b) (k := 6) (by omega) (show _ = nI 6 from rfl) (by decide)) rfl rfl (ly_kMo hly) ⟨_, _, rfl, by decide⟩ dX6_send_54 rfl ⟨jj_b1 rfl, jj_b1 rfl⟩ rfl) ?_
  rw [show jj_u (jj_u I 150 0 0) 158 (12 * b + 5) (nI h) 158 (12 * b + 6) = C (aB 0 b) 7 from (jj_u_nk (by omega)).trans st6]
  refine jr_aload_n hX dX6_send_57 rfl ?_
  refine jr_aload_n hX dX6_send_58 rfl ?_
  refine jr_iload_n hX dX6_send_59 rfl ?_
  refine jr_iconst (v := 4) hX dX6_send_60 (by decide) ?_
  refine jr_ret (jr_runV hX hSt kM_X6_74 (c_bo (jj_fl hX) hly (b := b) (k := 4) (by omega) (show _ = nI 4 from rfl) (by decide)) rfl rfl (ly_kMo hly) ⟨_, _, rfl, by decide⟩ dX6_send_61 rfl ⟨jj_b1 rfl, jj_b1 rfl⟩ rfl) ?_
  rw [show jj_u (jj_u I 150 0 0) 158 (12 * b + 5) (nI h) 158 (12 * b + 4) = nI h0 from (jj_u_nk (by omega)).trans (st4.trans eh0)]
  refine jr_iload_n hX dX6_send_64 rfl ?_
  refine jr_ret (jr_runV hX hSt kM_X6_131 (c_way (jj_fl hX) hly (by omega) (by omega)) rfl rfl (ly_kMo hly) ⟨_, _, rfl, by decide⟩ dX6_send_65 rfl ⟨jj_b1 rfl, jj_b1 rfl⟩ rfl) ?_
  rw [wy_eq mg (by omega) (by omega)]
  refine jr_iadd hX dX6_send_68 ?_
  exact jr_iret hX dX6_send_69 rfl rfl ⟨⟨by rw [eh0, nv_nI (by omega), jj_u_nk (show 7 ≠ 6 by decide)], by rw [jj_u_ne (by decide), jj_u_eq], mg, mz_cg hz0 (fun m _ _ => by rw [jj_u_ne (by decide)]) (fun m k _ _ _ => by rw [jj_u_ne (by decide)]) (fun m _ _ => jj_u_ne (by simp only [aMt, aB]; omega)), fun a ha => (jj_u_ne (by unfold offN at ha; omega)).trans (jj_u_ne (by unfold offN at ha; omega))⟩, rfl, rfl, rfl, rfl⟩
set_option maxHeartbeats 4000000 in
set_option maxRecDepth 100000 in
theorem m_mend_x1 {l : Launch} (hfl : l.stackTraces = false) {D : jj_D} {n : Nat} {K : jj_K} {I : jj_I} {P : jj_P} {G : jj_G} (hly : ly K P) {H M B N : Nat} {C : jj_I} {b : Int32} (hs : sf 0 H M B N C) (hk : sk 0 H M B N C) (hm : ml 0 H M B N C I) (hz : mz M C I) (h_b : b < 0 ∨ nI B ≤ b) :
    jj_Met l D yX6_mend (jj_ws yX6_mend cX6_mend 4 (some .int)) { frames := 2, cells := 0, slots := 0, locals := 43 } [.ref 150, .int b] n K I P G (jj_R (some (.int 0)) (n) (K) (jj_u (jj_u I 150 0 0) 150 0 1) (P) (G)) jj_noX := by
  refine jj_of hfl (by decide +kernel) [some (.ref 150), some (.int b), none, none] rfl rfl ?_
  intro X hXl hX hSt
  have z := sf_Z hs
  have hm0 : ml 0 H M B N C (jj_u I 150 0 0) := ml_th hm z
  have hz0 : mz M C (jj_u I 150 0 0) := mz_th hz
  have hH0 := hm0.1.1
  have hM0 := hm0.1.2.1
  have hB0 := hm0.1.2.2.1
  have hN0 := hm0.1.2.2.2
  have hH2 := hs.1.2
  have hM2 := z.1
  have hB2 := z.2.1
  have hN2 := z.2.2
  refine jr_aload_n hX dX6_mend_0 rfl ?_
  refine jr_iconst (v := 0) hX dX6_mend_1 (by decide) ?_
  refine jr_puti hX kF_X6_40 rfl (ly_kMo hly) (by decide) dX6_mend_2 ?_
  refine jr_aload_n hX dX6_mend_5 rfl ?_
  refine jr_iload_n hX dX6_mend_6 rfl ?_
  refine jr_ret (jr_runV hX hSt kM_X6_121 (c_isBoat_x (jj_fl hX) hly h_b hB0 (by omega)) rfl rfl (ly_kMo hly) ⟨_, _, rfl, by decide⟩ dX6_mend_7 rfl ⟨jj_b1 rfl, jj_b1 rfl⟩ rfl) ?_
  refine jr_if_ne (tgt := 19) hX dX6_mend_10 (by decide) (fun c_10 => absurd rfl c_10) (fun c_10 => ?_)
  refine jr_aload_n hX dX6_mend_13 rfl ?_
  refine jr_iconst (v := 1) hX dX6_mend_14 (by decide) ?_
  refine jr_ret (jr_runV hX hSt kM_X6_57 (c_fail (jj_fl hX) hly) rfl rfl (ly_kMo hly) ⟨_, _, rfl, by decide⟩ dX6_mend_15 rfl ⟨jj_b1 rfl, jj_b1 rfl⟩ rfl) ?_
  exact jr_iret hX dX6_mend_18 rfl rfl ⟨rfl, rfl, rfl, rfl, rfl, rfl⟩
set_option maxHeartbeats 4000000 in
set_option maxRecDepth 100000 in
theorem m_mend_x2 {l : Launch} (hfl : l.stackTraces = false) {D : jj_D} {n : Nat} {K : jj_K} {I : jj_I} {P : jj_P} {G : jj_G} (hly : ly K P) {H M B N : Nat} {C : jj_I} {b : Nat} (hs : sf 0 H M B N C) (hk : sk 0 H M B N C) (hm : ml 0 H M B N C I) (hz : mz M C I) (h_b : b < B) (h_i : ¬ (C (aB 0 b) 3 = 0 ∨ C (aB 0 b) 3 = 1)) :
    jj_Met l D yX6_mend (jj_ws yX6_mend cX6_mend 4 (some .int)) { frames := 2, cells := 0, slots := 0, locals := 43 } [.ref 150, .int (nI b)] n K I P G (jj_R (some (.int 0)) (n) (K) (jj_u (jj_u I 150 0 0) 150 0 2) (P) (G)) jj_noX := by
  refine jj_of hfl (by decide +kernel) [some (.ref 150), some (.int (nI b)), none, none] rfl rfl ?_
  intro X hXl hX hSt
  have z := sf_Z hs
  have hm0 : ml 0 H M B N C (jj_u I 150 0 0) := ml_th hm z
  have hz0 : mz M C (jj_u I 150 0 0) := mz_th hz
  have hH0 := hm0.1.1
  have hM0 := hm0.1.2.1
  have hB0 := hm0.1.2.2.1
  have hN0 := hm0.1.2.2.2
  have hH2 := hs.1.2
  have hM2 := z.1
  have hB2 := z.2.1
  have hN2 := z.2.2
  obtain ⟨⟨o_, ho_, eo_⟩, hp, h4, hl, ⟨g0, hg0, eg0⟩⟩ := hs.2.2.2.2.1 b h_b
  obtain ⟨o, ho, eo⟩ := (hk.2.1 b h_b).2
  obtain ⟨st0, st1, st2, st3, st4, st5, st6, st7, st8⟩ := ml_hB hm0 h_b
  refine jr_aload_n hX dX6_mend_0 rfl ?_
  refine jr_iconst (v := 0) hX dX6_mend_1 (by decide) ?_
  refine jr_puti hX kF_X6_40 rfl (ly_kMo hly) (by decide) dX6_mend_2 ?_
  refine jr_aload_n hX dX6_mend_5 rfl ?_
  refine jr_iload_n hX dX6_mend_6 rfl ?_
  refine jr_ret (jr_runV hX hSt kM_X6_121 (c_isBoat_ok (jj_fl hX) hly h_b hB0 (by omega)) rfl rfl (ly_kMo hly) ⟨_, _, rfl, by decide⟩ dX6_mend_7 rfl ⟨jj_b1 rfl, jj_b1 rfl⟩ rfl) ?_
  refine jr_if_ne (tgt := 19) hX dX6_mend_10 (by decide) (fun c_10 => ?_) (fun c_10 => absurd c_10 (by decide))
  refine jr_aload_n hX dX6_mend_19 rfl ?_
  refine jr_iload_n hX dX6_mend_20 rfl ?_
  refine jr_ret (jr_runV hX hSt kM_X6_77 (c_isHere (jj_fl hX) hly (by omega)) rfl rfl (ly_kMo hly) ⟨_, _, rfl, by decide⟩ dX6_mend_21 rfl ⟨jj_b1 rfl, jj_b1 rfl⟩ rfl) ?_
  rw [st3]
  refine jr_if_ne (tgt := 33) hX dX6_mend_24 (by decide) (fun c_24 => absurd (jm_h0 hp h_i) c_24) (fun c_24 => ?_)
  refine jr_aload_n hX dX6_mend_27 rfl ?_
  refine jr_iconst (v := 2) hX dX6_mend_28 (by decide) ?_
  refine jr_ret (jr_runV hX hSt kM_X6_57 (c_fail (jj_fl hX) hly) rfl rfl (ly_kMo hly) ⟨_, _, rfl, by decide⟩ dX6_mend_29 rfl ⟨jj_b1 rfl, jj_b1 rfl⟩ rfl) ?_
  exact jr_iret hX dX6_mend_32 rfl rfl ⟨rfl, rfl, rfl, rfl, rfl, rfl⟩
set_option maxHeartbeats 4000000 in
set_option maxRecDepth 100000 in
theorem m_mend_ok {l : Launch} (hfl : l.stackTraces = false) {D : jj_D} {n : Nat} {K : jj_K} {I : jj_I} {P : jj_P} {G : jj_G} (hly : ly K P) {H M B N : Nat} {C : jj_I} {b : Nat} (hs : sf 0 H M B N C) (hk : sk 0 H M B N C) (hm : ml 0 H M B N C I) (hz : mz M C I) (h_b : b < B) (h_i : C (aB 0 b) 3 = 0 ∨ C (aB 0 b) 3 = 1) :
    jj_Met l D yX6_mend (jj_ws yX6_mend cX6_mend 4 (some .int)) { frames := 2, cells := 0, slots := 0, locals := 43 } [.ref 150, .int (nI b)] n K I P G (jj_RS (fun r J => r = some (.int (f_mend b C (aB 0 b) 1)) ∧ J 150 0 = 0 ∧ ml 0 H M B N (f_mend b C) J ∧ mz (M) (f_mend b C) J ∧ ∀ a, offN a → J a = I a) n K P G) jj_noX := by
  refine jj_of hfl (by decide +kernel) [some (.ref 150), some (.int (nI b)), none, none] rfl rfl ?_
  intro X hXl hX hSt
  have z := sf_Z hs
  have hm0 : ml 0 H M B N C (jj_u I 150 0 0) := ml_th hm z
  have hz0 : mz M C (jj_u I 150 0 0) := mz_th hz
  have hH0 := hm0.1.1
  have hM0 := hm0.1.2.1
  have hB0 := hm0.1.2.2.1
  have hN0 := hm0.1.2.2.2
  have hH2 := hs.1.2
  have hM2 := z.1
  have hB2 := z.2.1
  have hN2 := z.2.2
  obtain ⟨⟨o_, ho_, eo_⟩, hp, h4, hl, ⟨g0, hg0, eg0⟩⟩ := hs.2.2.2.2.1 b h_b
  obtain ⟨o, ho, eo⟩ := (hk.2.1 b h_b).2
  obtain ⟨st0, st1, st2, st3, st4, st5, st6, st7, st8⟩ := ml_hB hm0 h_b
  obtain ⟨h0, hh0, eh0⟩ := h4 (by rcases h_i with e | e <;> rw [e] <;> decide)
  have fe := fmend_eq eo (by omega) (show b < 10 by omega)
  have pe := fpts_eq (b := b) (C := C) eo (by omega)
  refine jr_aload_n hX dX6_mend_0 rfl ?_
  refine jr_iconst (v := 0) hX dX6_mend_1 (by decide) ?_
  refine jr_puti hX kF_X6_40 rfl (ly_kMo hly) (by decide) dX6_mend_2 ?_
  refine jr_aload_n hX dX6_mend_5 rfl ?_
  refine jr_iload_n hX dX6_mend_6 rfl ?_
  refine jr_ret (jr_runV hX hSt kM_X6_121 (c_isBoat_ok (jj_fl hX) hly h_b hB0 (by omega)) rfl rfl (ly_kMo hly) ⟨_, _, rfl, by decide⟩ dX6_mend_7 rfl ⟨jj_b1 rfl, jj_b1 rfl⟩ rfl) ?_
  refine jr_if_ne (tgt := 19) hX dX6_mend_10 (by decide) (fun c_10 => ?_) (fun c_10 => absurd c_10 (by decide))
  refine jr_aload_n hX dX6_mend_19 rfl ?_
  refine jr_iload_n hX dX6_mend_20 rfl ?_
  refine jr_ret (jr_runV hX hSt kM_X6_77 (c_isHere (jj_fl hX) hly (by omega)) rfl rfl (ly_kMo hly) ⟨_, _, rfl, by decide⟩ dX6_mend_21 rfl ⟨jj_b1 rfl, jj_b1 rfl⟩ rfl) ?_
  rw [st3]
  refine jr_if_ne (tgt := 33) hX dX6_mend_24 (by decide) (fun c_24 => ?_) (fun c_24 => absurd c_24 (jm_h1 h_i))
  refine jr_aload_n hX dX6_mend_33 rfl ?_
  refine jr_iload_n hX dX6_mend_34 rfl ?_
  refine jr_iconst (v := 0) hX dX6_mend_35 (by decide) ?_
  refine jr_ret (jr_runV hX hSt kM_X6_74 (c_bo (jj_fl hX) hly (b := b) (k := 0) (by omega) (show _ = nI 0 from rfl) (by decide)) rfl rfl (ly_kMo hly) ⟨_, _, rfl, by decide⟩ dX6_mend_36 rfl ⟨jj_b1 rfl, jj_b1 rfl⟩ rfl) ?_
  rw [st0, eo]
  refine jr_istore_n hX dX6_mend_39 rfl ?_
  refine jr_bipush (v := 20) hX dX6_mend_40 (by decide) ?_
  refine jr_aload_n hX dX6_mend_42 rfl ?_
  refine jr_iload_n hX dX6_mend_43 rfl ?_
  refine jr_iconst (v := 1) hX dX6_mend_44 (by decide) ?_
  refine jr_ret (jr_runV hX hSt kM_X6_74 (c_bo (jj_fl hX) hly (b := b) (k := 1) (by omega) (show _ = nI 1 from rfl) (by decide)) rfl rfl (ly_kMo hly) ⟨_, _, rfl, by decide⟩ dX6_mend_45 rfl ⟨jj_b1 rfl, jj_b1 rfl⟩ rfl) ?_
  rw [st1]
  refine jr_isub hX dX6_mend_48 ?_
  refine jr_aload_n hX dX6_mend_49 rfl ?_
  refine jr_getr hX kF_X6_25 rfl (ly_kMo hly) (ly_p6_10 hly) dX6_mend_50 ?_
  refine jr_iload_n hX dX6_mend_53 rfl ?_
  refine jr_iald hX (by first | with_reducible assumption | with_reducible exact ly_kWm hly (by first | assumption | omega) | with_reducible exact ly_kLd hly (by first | assumption | omega) | with_reducible exact ly_kIc hly (by first | assumption | omega) | with_reducible exact ly_kBe hly (by first | assumption | omega) | with_reducible exact ly_kPr hly (by first | assumption | omega) | with_reducible exact ly_kMt hly (by first | assumption | omega) (by first | assumption | omega) | with_reducible exact ly_kBc hly (by first | assumption | omega) (by first | assumption | omega) | with_reducible exact ly_k151 hly | with_reducible exact ly_k152 hly | with_reducible exact ly_k153 hly | with_reducible exact ly_k154 hly | with_reducible exact ly_k155 hly | with_reducible exact ly_k156 hly | with_reducible exact ly_k157 hly | with_reducible exact ly_k158 hly | with_reducible exact ly_k159 hly | with_reducible exact ly_k160 hly | with_reducible exact ly_kAh hly (by first | assumption | omega)) (by first | with_reducible rfl | with_reducible assumption | rfl) (by omega) dX6_mend_54 ?_
  rw [ml_hCoin hm0 ho]
  refine jr_iconst (v := 3) hX dX6_mend_55 (by decide) ?_
  refine jr_idiv hX dX6_mend_56 (by decide) ?_
  refine jr_mmin hX kM_X6_68 dX6_mend_57 rfl ⟨jj_b1 rfl, jj_b1 rfl⟩ ?_
  rw [← pe]
  refine jr_istore_n hX dX6_mend_60 rfl ?_
  refine jr_aload_n hX dX6_mend_61 rfl ?_
  refine jr_getr hX kF_X6_25 rfl (ly_kMo hly) (ly_p6_10 hly) dX6_mend_62 ?_
  refine jr_iload_n hX dX6_mend_65 rfl ?_
  refine jr_dup2 hX dX6_mend_66 rfl rfl ?_
  refine jr_iald hX (by first | with_reducible assumption | with_reducible exact ly_kWm hly (by first | assumption | omega) | with_reducible exact ly_kLd hly (by first | assumption | omega) | with_reducible exact ly_kIc hly (by first | assumption | omega) | with_reducible exact ly_kBe hly (by first | assumption | omega) | with_reducible exact ly_kPr hly (by first | assumption | omega) | with_reducible exact ly_kMt hly (by first | assumption | omega) (by first | assumption | omega) | with_reducible exact ly_kBc hly (by first | assumption | omega) (by first | assumption | omega) | with_reducible exact ly_k151 hly | with_reducible exact ly_k152 hly | with_reducible exact ly_k153 hly | with_reducible exact ly_k154 hly | with_reducible exact ly_k155 hly | with_reducible exact ly_k156 hly | with_reducible exact ly_k157 hly | with_reducible exact ly_k158 hly | with_reducible exact ly_k159 hly | with_reducible exact ly_k160 hly | with_reducible exact ly_kAh hly (by first | assumption | omega)) (by first | with_reducible rfl | with_reducible assumption | rfl) (by omega) dX6_mend_67 ?_
  rw [ml_hCoin hm0 ho]
  refine jr_iconst (v := 3) hX dX6_mend_68 (by decide) ?_
  refine jr_iload_n hX dX6_mend_69 rfl ?_
  refine jr_imul hX dX6_mend_70 ?_
  refine jr_isub hX dX6_mend_71 ?_
  refine jr_iast hX (by first | with_reducible assumption | with_reducible exact ly_kWm hly (by first | assumption | omega) | with_reducible exact ly_kLd hly (by first | assumption | omega) | with_reducible exact ly_kIc hly (by first | assumption | omega) | with_reducible exact ly_kBe hly (by first | assumption | omega) | with_reducible exact ly_kPr hly (by first | assumption | omega) | with_reducible exact ly_kMt hly (by first | assumption | omega) (by first | assumption | omega) | with_reducible exact ly_kBc hly (by first | assumption | omega) (by first | assumption | omega) | with_reducible exact ly_k151 hly | with_reducible exact ly_k152 hly | with_reducible exact ly_k153 hly | with_reducible exact ly_k154 hly | with_reducible exact ly_k155 hly | with_reducible exact ly_k156 hly | with_reducible exact ly_k157 hly | with_reducible exact ly_k158 hly | with_reducible exact ly_k159 hly | with_reducible exact ly_k160 hly | with_reducible exact ly_kAh hly (by first | assumption | omega)) (by first | assumption | with_reducible exact aMt_0 | with_reducible exact aBc_0 | with_reducible exact aWm_0 | with_reducible exact aLd_0 | with_reducible exact aIc_0 | with_reducible exact aBe_0 | with_reducible exact aPr_0 | with_reducible exact aAh_0 | decide | omega) (by first | with_reducible rfl | with_reducible assumption | rfl) (by omega) dX6_mend_72 ?_
  refine jr_aload_n hX dX6_mend_73 rfl ?_
  refine jr_iload_n hX dX6_mend_74 rfl ?_
  refine jr_iconst (v := 1) hX dX6_mend_75 (by decide) ?_
  refine jr_aload_n hX dX6_mend_76 rfl ?_
  refine jr_iload_n hX dX6_mend_77 rfl ?_
  refine jr_iconst (v := 1) hX dX6_mend_78 (by decide) ?_
  refine jr_ret (jr_runV hX hSt kM_X6_74 (c_bo (jj_fl hX) hly (b := b) (k := 1) (by omega) (show _ = nI 1 from rfl) (by decide)) rfl rfl (ly_kMo hly) ⟨_, _, rfl, by decide⟩ dX6_mend_79 rfl ⟨jj_b1 rfl, jj_b1 rfl⟩ rfl) ?_
  rw [jj_u_ne (show (158 : Nat) ≠ 156 by decide), st1]
  refine jr_iload_n hX dX6_mend_82 rfl ?_
  refine jr_iadd hX dX6_mend_83 ?_
  refine jr_void (jr_runV hX hSt kM_X6_124 (c_setBo (jj_fl hX) hly (b := b) (k := 1) (by omega) (show _ = nI 1 from rfl) (by decide)) rfl rfl (ly_kMo hly) ⟨_, _, rfl, by decide⟩ dX6_mend_84 rfl ⟨jj_b1 rfl, jj_b1 rfl⟩ rfl) ?_
  refine jr_aload_n hX dX6_mend_87 rfl ?_
  refine jr_iload_n hX dX6_mend_88 rfl ?_
  refine jr_iconst (v := 1) hX dX6_mend_89 (by decide) ?_
  refine jr_ret (jr_runV hX hSt kM_X6_74 (c_bo (jj_fl hX) hly (b := b) (k := 1) (by omega) (show _ = nI 1 from rfl) (by decide)) rfl rfl (ly_kMo hly) ⟨_, _, rfl, by decide⟩ dX6_mend_90 rfl ⟨jj_b1 rfl, jj_b1 rfl⟩ rfl) ?_
  rw [jj_u_eq]
  exact jr_iret hX dX6_mend_93 rfl rfl ⟨⟨by rw [fe, jj_u_eq], by rw [jj_u_ne (by decide), jj_u_ne (by decide), jj_u_eq], by rw [fe]; exact ml_uHull (ml_uCoin hm0 z (by omega)) z h_b, mz_cg hz0 (fun m2 _ _ => by rw [jj_u_ne (by decide), jj_u_nk (by omega)]) (fun m2 k _ _ _ => by rw [jj_u_ne (by decide), jj_u_ne (by decide)]) (fun m2 _ _ => by rw [fe, jj_u_ne (by simp only [aMt, aB]; omega), jj_u_ne (by simp only [aMt, aM]; omega)]), fun a ha => (jj_u_ne (by unfold offN at ha; omega)).trans ((jj_u_ne (by unfold offN at ha; omega)).trans (jj_u_ne (by unfold offN at ha; omega)))⟩, rfl, rfl, rfl, rfl⟩
set_option maxHeartbeats 4000000 in
set_option maxRecDepth 100000 in
theorem m_repay_x1 {l : Launch} (hfl : l.stackTraces = false) {D : jj_D} {n : Nat} {K : jj_K} {I : jj_I} {P : jj_P} {G : jj_G} (hly : ly K P) {H M B N : Nat} {C : jj_I} {k : Int32} {h : Int32} (hs : sf 0 H M B N C) (hk : sk 0 H M B N C) (hm : ml 0 H M B N C I) (hz : mz M C I) (h_k : k < 0 ∨ nI N ≤ k) :
    jj_Met l D yX6_repay (jj_ws yX6_repay cX6_repay 3 (some .int)) { frames := 2, cells := 0, slots := 0, locals := 45 } [.ref 150, .int k, .int h] n K I P G (jj_R (some (.int 0)) (n) (K) (jj_u (jj_u I 150 0 0) 150 0 1) (P) (G)) jj_noX := by
  refine jj_of hfl (by decide +kernel) [some (.ref 150), some (.int k), some (.int h)] rfl rfl ?_
  intro X hXl hX hSt
  have z := sf_Z hs
  have hm0 : ml 0 H M B N C (jj_u I 150 0 0) := ml_th hm z
  have hz0 : mz M C (jj_u I 150 0 0) := mz_th hz
  have hH0 := hm0.1.1
  have hM0 := hm0.1.2.1
  have hB0 := hm0.1.2.2.1
  have hN0 := hm0.1.2.2.2
  have hH2 := hs.1.2
  have hM2 := z.1
  have hB2 := z.2.1
  have hN2 := z.2.2
  refine jr_aload_n hX dX6_repay_0 rfl ?_
  refine jr_iconst (v := 0) hX dX6_repay_1 (by decide) ?_
  refine jr_puti hX kF_X6_40 rfl (ly_kMo hly) (by decide) dX6_repay_2 ?_
  refine jr_iload_n hX dX6_repay_5 rfl ?_
  refine jr_iconst (v := 0) hX dX6_repay_6 (by decide) ?_
  refine jr_aload_n hX dX6_repay_7 rfl ?_
  refine jr_geti hX kF_X6_106 rfl (ly_kMo hly) dX6_repay_8 ?_
  refine jr_iconst (v := 1) hX dX6_repay_11 (by decide) ?_
  refine jr_isub hX dX6_repay_12 ?_
  rw [hN0]
  refine jr_ret (jr_runS hX hSt kM_X6_47 (c_isIn_x (jj_fl hX) (jm_x h_k (by omega))) rfl rfl dX6_repay_13 rfl ⟨jj_b1 rfl, jj_b1 rfl⟩ rfl) ?_
  refine jr_if_eq (tgt := 27) hX dX6_repay_16 (by decide) (fun c_16 => ?_) (fun c_16 => absurd rfl c_16)
  refine jr_aload_n hX dX6_repay_27 rfl ?_
  refine jr_iconst (v := 1) hX dX6_repay_28 (by decide) ?_
  refine jr_ret (jr_runV hX hSt kM_X6_57 (c_fail (jj_fl hX) hly) rfl rfl (ly_kMo hly) ⟨_, _, rfl, by decide⟩ dX6_repay_29 rfl ⟨jj_b1 rfl, jj_b1 rfl⟩ rfl) ?_
  exact jr_iret hX dX6_repay_32 rfl rfl ⟨rfl, rfl, rfl, rfl, rfl, rfl⟩
set_option maxHeartbeats 4000000 in
set_option maxRecDepth 100000 in
theorem m_repay_x2 {l : Launch} (hfl : l.stackTraces = false) {D : jj_D} {n : Nat} {K : jj_K} {I : jj_I} {P : jj_P} {G : jj_G} (hly : ly K P) {H M B N : Nat} {C : jj_I} {k : Nat} {h : Int32} (hs : sf 0 H M B N C) (hk : sk 0 H M B N C) (hm : ml 0 H M B N C I) (hz : mz M C I) (h_k : k < N) (h_h : h < 0 ∨ nI H ≤ h) :
    jj_Met l D yX6_repay (jj_ws yX6_repay cX6_repay 3 (some .int)) { frames := 2, cells := 0, slots := 0, locals := 45 } [.ref 150, .int (nI k), .int h] n K I P G (jj_R (some (.int 0)) (n) (K) (jj_u (jj_u I 150 0 0) 150 0 1) (P) (G)) jj_noX := by
  refine jj_of hfl (by decide +kernel) [some (.ref 150), some (.int (nI k)), some (.int h)] rfl rfl ?_
  intro X hXl hX hSt
  have z := sf_Z hs
  have hm0 : ml 0 H M B N C (jj_u I 150 0 0) := ml_th hm z
  have hz0 : mz M C (jj_u I 150 0 0) := mz_th hz
  have hH0 := hm0.1.1
  have hM0 := hm0.1.2.1
  have hB0 := hm0.1.2.2.1
  have hN0 := hm0.1.2.2.2
  have hH2 := hs.1.2
  have hM2 := z.1
  have hB2 := z.2.1
  have hN2 := z.2.2
  obtain ⟨⟨a, ha, e0⟩, ⟨q, hq, e1⟩⟩ := hk.2.2 k h_k
  obtain ⟨-, -, -, ⟨g, hg, e3⟩⟩ := hs.2.2.2.2.2 k h_k
  have d0 := ml_hDebt hm0 h_k (show 0 < 7 by decide)
  have d1 := ml_hDebt hm0 h_k (show 1 < 7 by decide)
  have d3 := ml_hDebt hm0 h_k (show 3 < 7 by decide)
  have d4 := ml_hDebt hm0 h_k (show 4 < 7 by decide)
  have d6 := ml_hDebt hm0 h_k (show 6 < 7 by decide)
  refine jr_aload_n hX dX6_repay_0 rfl ?_
  refine jr_iconst (v := 0) hX dX6_repay_1 (by decide) ?_
  refine jr_puti hX kF_X6_40 rfl (ly_kMo hly) (by decide) dX6_repay_2 ?_
  refine jr_iload_n hX dX6_repay_5 rfl ?_
  refine jr_iconst (v := 0) hX dX6_repay_6 (by decide) ?_
  refine jr_aload_n hX dX6_repay_7 rfl ?_
  refine jr_geti hX kF_X6_106 rfl (ly_kMo hly) dX6_repay_8 ?_
  refine jr_iconst (v := 1) hX dX6_repay_11 (by decide) ?_
  refine jr_isub hX dX6_repay_12 ?_
  rw [hN0]
  refine jr_ret (jr_runS hX hSt kM_X6_47 (c_isIn_ok (jj_fl hX) (jm_i h_k (by omega))) rfl rfl dX6_repay_13 rfl ⟨jj_b1 rfl, jj_b1 rfl⟩ rfl) ?_
  refine jr_if_eq (tgt := 27) hX dX6_repay_16 (by decide) (fun c_16 => absurd c_16 (by decide)) (fun c_16 => ?_)
  refine jr_aload_n hX dX6_repay_19 rfl ?_
  refine jr_iload_n hX dX6_repay_20 rfl ?_
  refine jr_ret (jr_runV hX hSt kM_X6_61 (c_isHarbour_x (jj_fl hX) hly h_h hH0 (by omega)) rfl rfl (ly_kMo hly) ⟨_, _, rfl, by decide⟩ dX6_repay_21 rfl ⟨jj_b1 rfl, jj_b1 rfl⟩ rfl) ?_
  refine jr_if_ne (tgt := 33) hX dX6_repay_24 (by decide) (fun c_24 => absurd rfl c_24) (fun c_24 => ?_)
  refine jr_aload_n hX dX6_repay_27 rfl ?_
  refine jr_iconst (v := 1) hX dX6_repay_28 (by decide) ?_
  refine jr_ret (jr_runV hX hSt kM_X6_57 (c_fail (jj_fl hX) hly) rfl rfl (ly_kMo hly) ⟨_, _, rfl, by decide⟩ dX6_repay_29 rfl ⟨jj_b1 rfl, jj_b1 rfl⟩ rfl) ?_
  exact jr_iret hX dX6_repay_32 rfl rfl ⟨rfl, rfl, rfl, rfl, rfl, rfl⟩
set_option maxHeartbeats 4000000 in
set_option maxRecDepth 100000 in
theorem m_repay_x3 {l : Launch} (hfl : l.stackTraces = false) {D : jj_D} {n : Nat} {K : jj_K} {I : jj_I} {P : jj_P} {G : jj_G} (hly : ly K P) {H M B N : Nat} {C : jj_I} {k : Nat} {h : Nat} (hs : sf 0 H M B N C) (hk : sk 0 H M B N C) (hm : ml 0 H M B N C I) (hz : mz M C I) (h_k : k < N) (h_h : h < H) (h_s : ¬ C (aD 0 k) 6 = 0) :
    jj_Met l D yX6_repay (jj_ws yX6_repay cX6_repay 3 (some .int)) { frames := 2, cells := 0, slots := 0, locals := 45 } [.ref 150, .int (nI k), .int (nI h)] n K I P G (jj_R (some (.int 0)) (n) (K) (jj_u (jj_u I 150 0 0) 150 0 2) (P) (G)) jj_noX := by
  refine jj_of hfl (by decide +kernel) [some (.ref 150), some (.int (nI k)), some (.int (nI h))] rfl rfl ?_
  intro X hXl hX hSt
  have z := sf_Z hs
  have hm0 : ml 0 H M B N C (jj_u I 150 0 0) := ml_th hm z
  have hz0 : mz M C (jj_u I 150 0 0) := mz_th hz
  have hH0 := hm0.1.1
  have hM0 := hm0.1.2.1
  have hB0 := hm0.1.2.2.1
  have hN0 := hm0.1.2.2.2
  have hH2 := hs.1.2
  have hM2 := z.1
  have hB2 := z.2.1
  have hN2 := z.2.2
  obtain ⟨⟨a, ha, e0⟩, ⟨q, hq, e1⟩⟩ := hk.2.2 k h_k
  obtain ⟨-, -, -, ⟨g, hg, e3⟩⟩ := hs.2.2.2.2.2 k h_k
  have d0 := ml_hDebt hm0 h_k (show 0 < 7 by decide)
  have d1 := ml_hDebt hm0 h_k (show 1 < 7 by decide)
  have d3 := ml_hDebt hm0 h_k (show 3 < 7 by decide)
  have d4 := ml_hDebt hm0 h_k (show 4 < 7 by decide)
  have d6 := ml_hDebt hm0 h_k (show 6 < 7 by decide)
  refine jr_aload_n hX dX6_repay_0 rfl ?_
  refine jr_iconst (v := 0) hX dX6_repay_1 (by decide) ?_
  refine jr_puti hX kF_X6_40 rfl (ly_kMo hly) (by decide) dX6_repay_2 ?_
  refine jr_iload_n hX dX6_repay_5 rfl ?_
  refine jr_iconst (v := 0) hX dX6_repay_6 (by decide) ?_
  refine jr_aload_n hX dX6_repay_7 rfl ?_
  refine jr_geti hX kF_X6_106 rfl (ly_kMo hly) dX6_repay_8 ?_
  refine jr_iconst (v := 1) hX dX6_repay_11 (by decide) ?_
  refine jr_isub hX dX6_repay_12 ?_
  rw [hN0]
  refine jr_ret (jr_runS hX hSt kM_X6_47 (c_isIn_ok (jj_fl hX) (jm_i h_k (by omega))) rfl rfl dX6_repay_13 rfl ⟨jj_b1 rfl, jj_b1 rfl⟩ rfl) ?_
  refine jr_if_eq (tgt := 27) hX dX6_repay_16 (by decide) (fun c_16 => absurd c_16 (by decide)) (fun c_16 => ?_)
  refine jr_aload_n hX dX6_repay_19 rfl ?_
  refine jr_iload_n hX dX6_repay_20 rfl ?_
  refine jr_ret (jr_runV hX hSt kM_X6_61 (c_isHarbour_ok (jj_fl hX) hly h_h hH0 (by omega)) rfl rfl (ly_kMo hly) ⟨_, _, rfl, by decide⟩ dX6_repay_21 rfl ⟨jj_b1 rfl, jj_b1 rfl⟩ rfl) ?_
  refine jr_if_ne (tgt := 33) hX dX6_repay_24 (by decide) (fun c_24 => ?_) (fun c_24 => absurd c_24 (by decide))
  refine jr_aload_n hX dX6_repay_33 rfl ?_
  refine jr_iload_n hX dX6_repay_34 rfl ?_
  refine jr_bipush (v := 6) hX dX6_repay_35 (by decide) ?_
  refine jr_ret (jr_runV hX hSt kM_X6_109 (c_de (jj_fl hX) hly (d := k) (k := 6) (by omega) (show _ = nI 6 from rfl) (by decide)) rfl rfl (ly_kMo hly) ⟨_, _, rfl, by decide⟩ dX6_repay_37 rfl ⟨jj_b1 rfl, jj_b1 rfl⟩ rfl) ?_
  rw [d6]
  refine jr_if_ne (tgt := 61) hX dX6_repay_40 (by decide) (fun c_40 => ?_) (fun c_40 => absurd c_40 h_s)
  refine jr_aload_n hX dX6_repay_61 rfl ?_
  refine jr_iconst (v := 2) hX dX6_repay_62 (by decide) ?_
  refine jr_ret (jr_runV hX hSt kM_X6_57 (c_fail (jj_fl hX) hly) rfl rfl (ly_kMo hly) ⟨_, _, rfl, by decide⟩ dX6_repay_63 rfl ⟨jj_b1 rfl, jj_b1 rfl⟩ rfl) ?_
  exact jr_iret hX dX6_repay_66 rfl rfl ⟨rfl, rfl, rfl, rfl, rfl, rfl⟩
set_option maxHeartbeats 4000000 in
set_option maxRecDepth 100000 in
theorem m_repay_x4 {l : Launch} (hfl : l.stackTraces = false) {D : jj_D} {n : Nat} {K : jj_K} {I : jj_I} {P : jj_P} {G : jj_G} (hly : ly K P) {H M B N : Nat} {C : jj_I} {k : Nat} {h : Nat} (hs : sf 0 H M B N C) (hk : sk 0 H M B N C) (hm : ml 0 H M B N C I) (hz : mz M C I) (h_k : k < N) (h_h : h < H) (h_s : C (aD 0 k) 6 = 0) (h_e : C (aMt 0 (nv (C (aD 0 k) 1))) (h * 4 + nv (C (aD 0 k) 3)) < C (aD 0 k) 4) :
    jj_Met l D yX6_repay (jj_ws yX6_repay cX6_repay 3 (some .int)) { frames := 2, cells := 0, slots := 0, locals := 45 } [.ref 150, .int (nI k), .int (nI h)] n K I P G (jj_R (some (.int 0)) (n) (K) (jj_u (jj_u I 150 0 0) 150 0 2) (P) (G)) jj_noX := by
  refine jj_of hfl (by decide +kernel) [some (.ref 150), some (.int (nI k)), some (.int (nI h))] rfl rfl ?_
  intro X hXl hX hSt
  have z := sf_Z hs
  have hm0 : ml 0 H M B N C (jj_u I 150 0 0) := ml_th hm z
  have hz0 : mz M C (jj_u I 150 0 0) := mz_th hz
  have hH0 := hm0.1.1
  have hM0 := hm0.1.2.1
  have hB0 := hm0.1.2.2.1
  have hN0 := hm0.1.2.2.2
  have hH2 := hs.1.2
  have hM2 := z.1
  have hB2 := z.2.1
  have hN2 := z.2.2
  obtain ⟨⟨a, ha, e0⟩, ⟨q, hq, e1⟩⟩ := hk.2.2 k h_k
  obtain ⟨-, -, -, ⟨g, hg, e3⟩⟩ := hs.2.2.2.2.2 k h_k
  have d0 := ml_hDebt hm0 h_k (show 0 < 7 by decide)
  have d1 := ml_hDebt hm0 h_k (show 1 < 7 by decide)
  have d3 := ml_hDebt hm0 h_k (show 3 < 7 by decide)
  have d4 := ml_hDebt hm0 h_k (show 4 < 7 by decide)
  have d6 := ml_hDebt hm0 h_k (show 6 < 7 by decide)
  have cs := ml_hStock hm0 hq (show 4 * h + g < 32 by omega)
  rw [e1, e3, nv_nI (by omega), nv_nI (by omega), show h * 4 + g = 4 * h + g by omega, ← cs, ← d4] at h_e
  refine jr_aload_n hX dX6_repay_0 rfl ?_
  refine jr_iconst (v := 0) hX dX6_repay_1 (by decide) ?_
  refine jr_puti hX kF_X6_40 rfl (ly_kMo hly) (by decide) dX6_repay_2 ?_
  refine jr_iload_n hX dX6_repay_5 rfl ?_
  refine jr_iconst (v := 0) hX dX6_repay_6 (by decide) ?_
  refine jr_aload_n hX dX6_repay_7 rfl ?_
  refine jr_geti hX kF_X6_106 rfl (ly_kMo hly) dX6_repay_8 ?_
  refine jr_iconst (v := 1) hX dX6_repay_11 (by decide) ?_
  refine jr_isub hX dX6_repay_12 ?_
  rw [hN0]
  refine jr_ret (jr_runS hX hSt kM_X6_47 (c_isIn_ok (jj_fl hX) (jm_i h_k (by omega))) rfl rfl dX6_repay_13 rfl ⟨jj_b1 rfl, jj_b1 rfl⟩ rfl) ?_
  refine jr_if_eq (tgt := 27) hX dX6_repay_16 (by decide) (fun c_16 => absurd c_16 (by decide)) (fun c_16 => ?_)
  refine jr_aload_n hX dX6_repay_19 rfl ?_
  refine jr_iload_n hX dX6_repay_20 rfl ?_
  refine jr_ret (jr_runV hX hSt kM_X6_61 (c_isHarbour_ok (jj_fl hX) hly h_h hH0 (by omega)) rfl rfl (ly_kMo hly) ⟨_, _, rfl, by decide⟩ dX6_repay_21 rfl ⟨jj_b1 rfl, jj_b1 rfl⟩ rfl) ?_
  refine jr_if_ne (tgt := 33) hX dX6_repay_24 (by decide) (fun c_24 => ?_) (fun c_24 => absurd c_24 (by decide))
  refine jr_aload_n hX dX6_repay_33 rfl ?_
  refine jr_iload_n hX dX6_repay_34 rfl ?_
  refine jr_bipush (v := 6) hX dX6_repay_35 (by decide) ?_
  refine jr_ret (jr_runV hX hSt kM_X6_109 (c_de (jj_fl hX) hly (d := k) (k := 6) (by omega) (show _ = nI 6 from rfl) (by decide)) rfl rfl (ly_kMo hly) ⟨_, _, rfl, by decide⟩ dX6_repay_37 rfl ⟨jj_b1 rfl, jj_b1 rfl⟩ rfl) ?_
  rw [d6]
  refine jr_if_ne (tgt := 61) hX dX6_repay_40 (by decide) (fun c_40 => absurd h_s c_40) (fun c_40 => ?_)
  refine jr_aload_n hX dX6_repay_43 rfl ?_
  refine jr_iload_n hX dX6_repay_44 rfl ?_
  refine jr_iload_n hX dX6_repay_45 rfl ?_
  refine jr_ret (jr_runV hX hSt kM_X6_137 (c_pays_no (jj_fl hX) hly (show k < 30 by omega) (d0.trans e0) (d1.trans e1) (d3.trans e3) (by omega) (by omega) (show h < 8 by omega) hg h_e) rfl rfl (ly_kMo hly) ⟨_, _, rfl, by decide⟩ dX6_repay_46 rfl ⟨jj_b1 rfl, jj_b1 rfl⟩ rfl) ?_
  refine jr_if_eq (tgt := 61) hX dX6_repay_49 (by decide) (fun c_49 => ?_) (fun c_49 => absurd rfl c_49)
  refine jr_aload_n hX dX6_repay_61 rfl ?_
  refine jr_iconst (v := 2) hX dX6_repay_62 (by decide) ?_
  refine jr_ret (jr_runV hX hSt kM_X6_57 (c_fail (jj_fl hX) hly) rfl rfl (ly_kMo hly) ⟨_, _, rfl, by decide⟩ dX6_repay_63 rfl ⟨jj_b1 rfl, jj_b1 rfl⟩ rfl) ?_
  exact jr_iret hX dX6_repay_66 rfl rfl ⟨rfl, rfl, rfl, rfl, rfl, rfl⟩
set_option maxHeartbeats 4000000 in
set_option maxRecDepth 100000 in
theorem m_repay_ok {l : Launch} (hfl : l.stackTraces = false) {D : jj_D} {n : Nat} {K : jj_K} {I : jj_I} {P : jj_P} {G : jj_G} (hly : ly K P) {H M B N : Nat} {C : jj_I} {k : Nat} {h : Nat} (hs : sf 0 H M B N C) (hk : sk 0 H M B N C) (hm : ml 0 H M B N C I) (hz : mz M C I) (h_k : k < N) (h_h : h < H) (h_s : C (aD 0 k) 6 = 0) (h_e : C (aD 0 k) 4 ≤ C (aMt 0 (nv (C (aD 0 k) 1))) (h * 4 + nv (C (aD 0 k) 3))) :
    jj_Met l D yX6_repay (jj_ws yX6_repay cX6_repay 3 (some .int)) { frames := 2, cells := 0, slots := 0, locals := 45 } [.ref 150, .int (nI k), .int (nI h)] n K I P G (jj_RS (fun r J => r = some (.int (f_repay k h C (aD 0 k) 4)) ∧ J 150 0 = 0 ∧ ml 0 H M B N (f_repay k h C) J ∧ mz (M) (f_repay k h C) J ∧ ∀ a, offN a → J a = I a) n K P G) jj_noX := by
  refine jj_of hfl (by decide +kernel) [some (.ref 150), some (.int (nI k)), some (.int (nI h))] rfl rfl ?_
  intro X hXl hX hSt
  have z := sf_Z hs
  have hm0 : ml 0 H M B N C (jj_u I 150 0 0) := ml_th hm z
  have hz0 : mz M C (jj_u I 150 0 0) := mz_th hz
  have hH0 := hm0.1.1
  have hM0 := hm0.1.2.1
  have hB0 := hm0.1.2.2.1
  have hN0 := hm0.1.2.2.2
  have hH2 := hs.1.2
  have hM2 := z.1
  have hB2 := z.2.1
  have hN2 := z.2.2
  obtain ⟨⟨a, ha, e0⟩, ⟨q, hq, e1⟩⟩ := hk.2.2 k h_k
  obtain ⟨-, -, -, ⟨g, hg, e3⟩⟩ := hs.2.2.2.2.2 k h_k
  have d0 := ml_hDebt hm0 h_k (show 0 < 7 by decide)
  have d1 := ml_hDebt hm0 h_k (show 1 < 7 by decide)
  have d3 := ml_hDebt hm0 h_k (show 3 < 7 by decide)
  have d4 := ml_hDebt hm0 h_k (show 4 < 7 by decide)
  have d6 := ml_hDebt hm0 h_k (show 6 < 7 by decide)
  have cs := ml_hStock hm0 hq (show 4 * h + g < 32 by omega)
  rw [e1, e3, nv_nI (by omega), nv_nI (by omega), show h * 4 + g = 4 * h + g by omega, ← cs, ← d4] at h_e
  have fe := frp_eq (h := h) e0 e1 e3 (by omega) (by omega) hg
  refine jr_aload_n hX dX6_repay_0 rfl ?_
  refine jr_iconst (v := 0) hX dX6_repay_1 (by decide) ?_
  refine jr_puti hX kF_X6_40 rfl (ly_kMo hly) (by decide) dX6_repay_2 ?_
  refine jr_iload_n hX dX6_repay_5 rfl ?_
  refine jr_iconst (v := 0) hX dX6_repay_6 (by decide) ?_
  refine jr_aload_n hX dX6_repay_7 rfl ?_
  refine jr_geti hX kF_X6_106 rfl (ly_kMo hly) dX6_repay_8 ?_
  refine jr_iconst (v := 1) hX dX6_repay_11 (by decide) ?_
  refine jr_isub hX dX6_repay_12 ?_
  rw [hN0]
  refine jr_ret (jr_runS hX hSt kM_X6_47 (c_isIn_ok (jj_fl hX) (jm_i h_k (by omega))) rfl rfl dX6_repay_13 rfl ⟨jj_b1 rfl, jj_b1 rfl⟩ rfl) ?_
  refine jr_if_eq (tgt := 27) hX dX6_repay_16 (by decide) (fun c_16 => absurd c_16 (by decide)) (fun c_16 => ?_)
  refine jr_aload_n hX dX6_repay_19 rfl ?_
  refine jr_iload_n hX dX6_repay_20 rfl ?_
  refine jr_ret (jr_runV hX hSt kM_X6_61 (c_isHarbour_ok (jj_fl hX) hly h_h hH0 (by omega)) rfl rfl (ly_kMo hly) ⟨_, _, rfl, by decide⟩ dX6_repay_21 rfl ⟨jj_b1 rfl, jj_b1 rfl⟩ rfl) ?_
  refine jr_if_ne (tgt := 33) hX dX6_repay_24 (by decide) (fun c_24 => ?_) (fun c_24 => absurd c_24 (by decide))
  refine jr_aload_n hX dX6_repay_33 rfl ?_
  refine jr_iload_n hX dX6_repay_34 rfl ?_
  refine jr_bipush (v := 6) hX dX6_repay_35 (by decide) ?_
  refine jr_ret (jr_runV hX hSt kM_X6_109 (c_de (jj_fl hX) hly (d := k) (k := 6) (by omega) (show _ = nI 6 from rfl) (by decide)) rfl rfl (ly_kMo hly) ⟨_, _, rfl, by decide⟩ dX6_repay_37 rfl ⟨jj_b1 rfl, jj_b1 rfl⟩ rfl) ?_
  rw [d6]
  refine jr_if_ne (tgt := 61) hX dX6_repay_40 (by decide) (fun c_40 => absurd h_s c_40) (fun c_40 => ?_)
  refine jr_aload_n hX dX6_repay_43 rfl ?_
  refine jr_iload_n hX dX6_repay_44 rfl ?_
  refine jr_iload_n hX dX6_repay_45 rfl ?_
  refine jr_ret (jr_runV hX hSt kM_X6_137 (c_pays_yes (jj_fl hX) hly (show k < 30 by omega) (d0.trans e0) (d1.trans e1) (d3.trans e3) (by omega) (by omega) (show h < 8 by omega) hg (Int32.not_lt.mpr h_e)) rfl rfl (ly_kMo hly) ⟨_, _, rfl, by decide⟩ dX6_repay_46 rfl ⟨jj_b1 rfl, jj_b1 rfl⟩ rfl) ?_
  refine jr_if_eq (tgt := 61) hX dX6_repay_49 (by decide) (fun c_49 => absurd c_49 (by decide)) (fun c_49 => ?_)
  refine jr_aload_n hX dX6_repay_52 rfl ?_
  refine jr_iload_n hX dX6_repay_53 rfl ?_
  refine jr_iconst (v := 4) hX dX6_repay_54 (by decide) ?_
  refine jr_ret (jr_runV hX hSt kM_X6_109 (c_de (jj_fl hX) hly (d := k) (k := 4) (by omega) (show _ = nI 4 from rfl) (by decide)) rfl rfl (ly_kMo hly) ⟨_, _, rfl, by decide⟩ dX6_repay_55 rfl ⟨jj_b1 rfl, jj_b1 rfl⟩ rfl) ?_
  have mp := ml_py hm0 z h_k ha hq (show h < 8 by omega) hg
  rw [ml_hDebt mp h_k (show 4 < 7 by decide)]
  refine jr_goto (tgt := 66) hX dX6_repay_58 (by decide) ?_
  exact jr_iret hX dX6_repay_66 rfl rfl ⟨⟨by rw [fe], by unfold m_py; (try dsimp only); rw [jj_u_ne (by decide), jj_u_ne (by decide), jj_u_ne (by decide), jj_u_eq], by rw [fe]; exact mp, mz_cg hz0 (fun m2 _ _ => by unfold m_py; (try dsimp only); rw [jj_u_ne (by decide), jj_u_ne (by decide), jj_u_ne (by decide)]) (fun m2 c _ _ _ => by unfold m_py; (try dsimp only); rw [jj_u_ne (by decide), jj_u_nk (by omega), jj_u_nk (by omega)]) (fun m2 _ _ => by rw [fe, jj_u_ne (by simp only [aMt, aD]; omega)]; unfold f_hd; (try dsimp only); rw [jj_u_ne (by simp only [aMt]; omega), jj_u_ne (by simp only [aMt]; omega)]), fun y hy => by unfold offN at hy; unfold m_py; (try dsimp only); rw [jj_u_ne (by omega), jj_u_ne (by omega), jj_u_ne (by omega), jj_u_ne (by omega)]⟩, rfl, rfl, rfl, rfl⟩
