/-! the calls of the face: each way that they end -/
def f_sell (m c : Nat) (y : Int32) (I : jj_I) : jj_I := let J := jj_u I (aMt 0 m) c (I (aMt 0 m) c - y); jj_u J (aM 0 m) 0 (J (aM 0 m) 0 + y * J (aPr 0) c)
def f_load (b g : Nat) (y : Int32) (I : jj_I) : jj_I := let J := jj_u I (aMt 0 (nv (I (aB 0 b) 0))) (nv (I (aB 0 b) 4) * 4 + g) (I (aMt 0 (nv (I (aB 0 b) 0))) (nv (I (aB 0 b) 4) * 4 + g) - y); jj_u J (aBc 0 b) g (J (aBc 0 b) g + y)
def f_pts (b : Nat) (I : jj_I) : Int32 := if I (aM 0 (nv (I (aB 0 b) 0))) 0 / 3 < 20 - I (aB 0 b) 1 then I (aM 0 (nv (I (aB 0 b) 0))) 0 / 3 else 20 - I (aB 0 b) 1
def f_mend (b : Nat) (I : jj_I) : jj_I := let o := nv (I (aB 0 b) 0); let p := f_pts b I; let J := jj_u I (aM 0 o) 0 (I (aM 0 o) 0 - p * 3); jj_u J (aB 0 b) 1 (J (aB 0 b) 1 + p)
def f_berth (b : Nat) (z : Int32) (I : jj_I) : jj_I := jj_u I (aB 0 b) 3 (if z = 0 then 0 else 1)
def f_lend (a b h g N : Nat) (y t : Int32) (I : jj_I) : jj_I := jj_u (f_op 0 N (nI a) (nI b) (nI h) (nI g) (y + y / 10) t (f_hd 0 a b (h * 4 + g) y I)) (aW 0) 3 (nI (N + 1))
def f_repay (k h : Nat) (I : jj_I) : jj_I := jj_u (f_hd 0 (nv (I (aD 0 k) 1)) (nv (I (aD 0 k) 0)) (h * 4 + nv (I (aD 0 k) 3)) (I (aD 0 k) 4) I) (aD 0 k) 6 1
set_option maxHeartbeats 4000000 in
set_option maxRecDepth 100000 in
theorem c_setWarm_ok {l : Launch} (hfl : l.stackTraces = false) {D : jj_D} {n : Nat} {K : jj_K} {I : jj_I} {P : jj_P} {G : jj_G} (hly : ly K P) {H M B N : Nat} {d : Nat} {y : Int32} (hs : sf 0 H M B N I) (h_d : d < 40) (h_y : -9 ≤ y ∧ y ≤ 9) :
    jj_Met l D yX5_setWarm (jj_ws yX5_setWarm cX5_setWarm 4 (some .int)) { frames := 7, cells := 0, slots := 0, locals := 112 } [.ref 1, .int (nI d), .int y] n K I P G (jj_R (some (.int (I (aWm 0) d))) (n) (K) (jj_u I (aWm 0) d y) (P) (G)) jj_noX := by
  refine jj_of hfl (by decide +kernel) [some (.ref 1), some (.int (nI d)), some (.int y), none] rfl rfl ?_
  intro X hXl hX hSt
  have hH := hs.1.1
  have hH2 := hs.1.2
  have hM := hs.2.1.1
  have hM2 := hs.2.1.2
  have hB := hs.2.2.1.1
  have hB2 := hs.2.2.1.2
  have hN := hs.2.2.2.1.1
  have hN2 := hs.2.2.2.1.2
  refine jr_iload_n hX dX5_setWarm_0 rfl ?_
  refine jr_bipush (v := 40) hX dX5_setWarm_1 (by decide) ?_
  refine jr_void (jr_runS hX hSt kM_X5_29 (c_needIndex_ok (jj_fl hX) (a := d) (c := 40) h_d (by omega)) rfl rfl dX5_setWarm_3 rfl ⟨jj_b1 rfl, jj_b1 rfl⟩ rfl) ?_
  refine jr_iload_n hX dX5_setWarm_6 rfl ?_
  refine jr_bipush (v := -9) hX dX5_setWarm_7 (by decide) ?_
  refine jr_bipush (v := 9) hX dX5_setWarm_9 (by decide) ?_
  refine jr_void (jr_runS hX hSt kM_X5_33 (c_needNumber_ok (jj_fl hX) h_y) rfl rfl dX5_setWarm_11 rfl ⟨jj_b1 rfl, jj_b1 rfl⟩ rfl) ?_
  refine jr_aload_n hX dX5_setWarm_14 rfl ?_
  refine jr_getr hX kF_X5_20 rfl (ly_kI hly) (ly_p5_1 hly) dX5_setWarm_15 ?_
  refine jr_getr hX kF_X5_37 rfl (ly_kR hly (by first | assumption | omega)) (ly_p3_2 hly (by first | assumption | omega)) dX5_setWarm_18 ?_
  refine jr_iload_n hX dX5_setWarm_21 rfl ?_
  refine jr_iald hX (by first | with_reducible assumption | with_reducible exact ly_kWm hly (by first | assumption | omega) | with_reducible exact ly_kLd hly (by first | assumption | omega) | with_reducible exact ly_kIc hly (by first | assumption | omega) | with_reducible exact ly_kBe hly (by first | assumption | omega) | with_reducible exact ly_kPr hly (by first | assumption | omega) | with_reducible exact ly_kMt hly (by first | assumption | omega) (by first | assumption | omega) | with_reducible exact ly_kBc hly (by first | assumption | omega) (by first | assumption | omega) | with_reducible exact ly_kAh hly (by first | assumption | omega)) (by first | with_reducible rfl | with_reducible assumption | rfl) (by omega) dX5_setWarm_22 ?_
  refine jr_istore_n hX dX5_setWarm_23 rfl ?_
  refine jr_aload_n hX dX5_setWarm_24 rfl ?_
  refine jr_getr hX kF_X5_20 rfl (ly_kI hly) (ly_p5_1 hly) dX5_setWarm_25 ?_
  refine jr_getr hX kF_X5_37 rfl (ly_kR hly (by first | assumption | omega)) (ly_p3_2 hly (by first | assumption | omega)) dX5_setWarm_28 ?_
  refine jr_iload_n hX dX5_setWarm_31 rfl ?_
  refine jr_iload_n hX dX5_setWarm_32 rfl ?_
  refine jr_iast hX (by first | with_reducible assumption | with_reducible exact ly_kWm hly (by first | assumption | omega) | with_reducible exact ly_kLd hly (by first | assumption | omega) | with_reducible exact ly_kIc hly (by first | assumption | omega) | with_reducible exact ly_kBe hly (by first | assumption | omega) | with_reducible exact ly_kPr hly (by first | assumption | omega) | with_reducible exact ly_kMt hly (by first | assumption | omega) (by first | assumption | omega) | with_reducible exact ly_kBc hly (by first | assumption | omega) (by first | assumption | omega) | with_reducible exact ly_kAh hly (by first | assumption | omega)) (by first | assumption | with_reducible exact aMt_0 | with_reducible exact aBc_0 | with_reducible exact aWm_0 | with_reducible exact aLd_0 | with_reducible exact aIc_0 | with_reducible exact aBe_0 | with_reducible exact aPr_0 | with_reducible exact aAh_0 | decide | omega) (by first | with_reducible rfl | with_reducible assumption | rfl) (by omega) dX5_setWarm_33 ?_
  refine jr_iload_n hX dX5_setWarm_34 rfl ?_
  exact jr_iret hX dX5_setWarm_35 rfl rfl ⟨rfl, rfl, rfl, rfl, rfl, rfl⟩
set_option maxHeartbeats 4000000 in
set_option maxRecDepth 100000 in
theorem c_addHarbour_ok {l : Launch} (hfl : l.stackTraces = false) {D : jj_D} {n : Nat} {K : jj_K} {I : jj_I} {P : jj_P} {G : jj_G} (hly : ly K P) {H M B N : Nat} {y : Int32} {z : Int32} (hs : sf 0 H M B N I) (h_y : 1 ≤ y ∧ y ≤ 9) (h_z : 0 ≤ z ∧ z ≤ 5) (h_r : H < 8) :
    jj_Met l D yX5_addHarbour (jj_ws yX5_addHarbour cX5_addHarbour 3 (some .int)) { frames := 7, cells := 0, slots := 0, locals := 112 } [.ref 1, .int y, .int z] n K I P G (jj_R (some (.int (nI H))) (n) (K) (f_gr 0 H y z I) (P) (G)) jj_noX := by
  refine jj_of hfl (by decide +kernel) [some (.ref 1), some (.int y), some (.int z)] rfl rfl ?_
  intro X hXl hX hSt
  have hH := hs.1.1
  have hH2 := hs.1.2
  have hM := hs.2.1.1
  have hM2 := hs.2.1.2
  have hB := hs.2.2.1.1
  have hB2 := hs.2.2.1.2
  have hN := hs.2.2.2.1.1
  have hN2 := hs.2.2.2.1.2
  refine jr_iload_n hX dX5_addHarbour_0 rfl ?_
  refine jr_iconst (v := 1) hX dX5_addHarbour_1 (by decide) ?_
  refine jr_bipush (v := 9) hX dX5_addHarbour_2 (by decide) ?_
  refine jr_void (jr_runS hX hSt kM_X5_33 (c_needNumber_ok (jj_fl hX) h_y) rfl rfl dX5_addHarbour_4 rfl ⟨jj_b1 rfl, jj_b1 rfl⟩ rfl) ?_
  refine jr_iload_n hX dX5_addHarbour_7 rfl ?_
  refine jr_iconst (v := 0) hX dX5_addHarbour_8 (by decide) ?_
  refine jr_iconst (v := 5) hX dX5_addHarbour_9 (by decide) ?_
  refine jr_void (jr_runS hX hSt kM_X5_33 (c_needNumber_ok (jj_fl hX) h_z) rfl rfl dX5_addHarbour_10 rfl ⟨jj_b1 rfl, jj_b1 rfl⟩ rfl) ?_
  refine jr_aload_n hX dX5_addHarbour_13 rfl ?_
  refine jr_getr hX kF_X5_20 rfl (ly_kI hly) (ly_p5_1 hly) dX5_addHarbour_14 ?_
  refine jr_geti hX kF_X5_43 rfl (ly_kR hly (by first | assumption | omega)) dX5_addHarbour_17 ?_
  refine jr_bipush (v := 8) hX dX5_addHarbour_20 (by decide) ?_
  refine jr_void (jr_runS hX hSt kM_X5_47 (c_needRoom_ok (jj_fl hX) (show _ < nI 8 from by rw [hH]; exact nI_lt h_r (by omega))) rfl rfl dX5_addHarbour_22 rfl ⟨jj_b1 rfl, jj_b1 rfl⟩ rfl) ?_
  refine jr_aload_n hX dX5_addHarbour_25 rfl ?_
  refine jr_getr hX kF_X5_20 rfl (ly_kI hly) (ly_p5_1 hly) dX5_addHarbour_26 ?_
  refine jr_iload_n hX dX5_addHarbour_29 rfl ?_
  refine jr_iload_n hX dX5_addHarbour_30 rfl ?_
  refine jr_ret (jr_runV hX hSt kM_X5_50 (c_X3_grow (jj_fl hX) hly (by omega) hH h_r) rfl rfl (ly_kR hly (by first | assumption | omega)) ⟨_, _, rfl, by decide⟩ dX5_addHarbour_31 rfl ⟨jj_b1 rfl, jj_b1 rfl⟩ rfl) ?_
  exact jr_iret hX dX5_addHarbour_34 rfl rfl ⟨rfl, rfl, rfl, rfl, rfl, rfl⟩
set_option maxHeartbeats 4000000 in
set_option maxRecDepth 100000 in
theorem c_setPrice_ok {l : Launch} (hfl : l.stackTraces = false) {D : jj_D} {n : Nat} {K : jj_K} {I : jj_I} {P : jj_P} {G : jj_G} (hly : ly K P) {H M B N : Nat} {h : Nat} {g : Nat} {y : Int32} (hs : sf 0 H M B N I) (h_h : h < H) (h_g : g < 4) (h_y : 0 ≤ y ∧ y ≤ 50) :
    jj_Met l D yX5_setPrice (jj_ws yX5_setPrice cX5_setPrice 5 (some .int)) { frames := 8, cells := 0, slots := 0, locals := 132 } [.ref 1, .int (nI h), .int (nI g), .int y] n K I P G (jj_R (some (.int (I (aPr 0) (h * 4 + g)))) (n) (K) (jj_u I (aPr 0) (h * 4 + g) y) (P) (G)) jj_noX := by
  refine jj_of hfl (by decide +kernel) [some (.ref 1), some (.int (nI h)), some (.int (nI g)), some (.int y), none] rfl rfl ?_
  intro X hXl hX hSt
  have hH := hs.1.1
  have hH2 := hs.1.2
  have hM := hs.2.1.1
  have hM2 := hs.2.1.2
  have hB := hs.2.2.1.1
  have hB2 := hs.2.2.1.2
  have hN := hs.2.2.2.1.1
  have hN2 := hs.2.2.2.1.2
  refine jr_aload_n hX dX5_setPrice_0 rfl ?_
  refine jr_iload_n hX dX5_setPrice_1 rfl ?_
  refine jr_void (jr_runV hX hSt kM_X5_54 (c_needHarbour_ok (jj_fl hX) hly h_h hH (by omega)) rfl rfl (ly_kI hly) ⟨_, _, rfl, by decide⟩ dX5_setPrice_2 rfl ⟨jj_b1 rfl, jj_b1 rfl⟩ rfl) ?_
  refine jr_iload_n hX dX5_setPrice_5 rfl ?_
  refine jr_iconst (v := 4) hX dX5_setPrice_6 (by decide) ?_
  refine jr_void (jr_runS hX hSt kM_X5_29 (c_needIndex_ok (jj_fl hX) (a := g) (c := 4) h_g (by omega)) rfl rfl dX5_setPrice_7 rfl ⟨jj_b1 rfl, jj_b1 rfl⟩ rfl) ?_
  refine jr_iload_n hX dX5_setPrice_10 rfl ?_
  refine jr_iconst (v := 0) hX dX5_setPrice_11 (by decide) ?_
  refine jr_bipush (v := 50) hX dX5_setPrice_12 (by decide) ?_
  refine jr_void (jr_runS hX hSt kM_X5_33 (c_needNumber_ok (jj_fl hX) h_y) rfl rfl dX5_setPrice_14 rfl ⟨jj_b1 rfl, jj_b1 rfl⟩ rfl) ?_
  refine jr_aload_n hX dX5_setPrice_17 rfl ?_
  refine jr_getr hX kF_X5_20 rfl (ly_kI hly) (ly_p5_1 hly) dX5_setPrice_18 ?_
  refine jr_getr hX kF_X5_58 rfl (ly_kR hly (by first | assumption | omega)) (ly_p3_6 hly (by first | assumption | omega)) dX5_setPrice_21 ?_
  refine jr_iload_n hX dX5_setPrice_24 rfl ?_
  refine jr_iload_n hX dX5_setPrice_25 rfl ?_
  refine jr_ret (jr_runS hX hSt kM_X5_61 (c_X5_cellOf (jj_fl hX) (h := h) (g := g)) rfl rfl dX5_setPrice_26 rfl ⟨jj_b1 rfl, jj_b1 rfl⟩ rfl) ?_
  refine jr_iald hX (by first | with_reducible assumption | with_reducible exact ly_kWm hly (by first | assumption | omega) | with_reducible exact ly_kLd hly (by first | assumption | omega) | with_reducible exact ly_kIc hly (by first | assumption | omega) | with_reducible exact ly_kBe hly (by first | assumption | omega) | with_reducible exact ly_kPr hly (by first | assumption | omega) | with_reducible exact ly_kMt hly (by first | assumption | omega) (by first | assumption | omega) | with_reducible exact ly_kBc hly (by first | assumption | omega) (by first | assumption | omega) | with_reducible exact ly_kAh hly (by first | assumption | omega)) (by first | with_reducible rfl | with_reducible assumption | rfl) (by omega) dX5_setPrice_29 ?_
  refine jr_istore hX dX5_setPrice_30 rfl ?_
  refine jr_aload_n hX dX5_setPrice_32 rfl ?_
  refine jr_getr hX kF_X5_20 rfl (ly_kI hly) (ly_p5_1 hly) dX5_setPrice_33 ?_
  refine jr_getr hX kF_X5_58 rfl (ly_kR hly (by first | assumption | omega)) (ly_p3_6 hly (by first | assumption | omega)) dX5_setPrice_36 ?_
  refine jr_iload_n hX dX5_setPrice_39 rfl ?_
  refine jr_iload_n hX dX5_setPrice_40 rfl ?_
  refine jr_ret (jr_runS hX hSt kM_X5_61 (c_X5_cellOf (jj_fl hX) (h := h) (g := g)) rfl rfl dX5_setPrice_41 rfl ⟨jj_b1 rfl, jj_b1 rfl⟩ rfl) ?_
  refine jr_iload_n hX dX5_setPrice_44 rfl ?_
  refine jr_iast hX (by first | with_reducible assumption | with_reducible exact ly_kWm hly (by first | assumption | omega) | with_reducible exact ly_kLd hly (by first | assumption | omega) | with_reducible exact ly_kIc hly (by first | assumption | omega) | with_reducible exact ly_kBe hly (by first | assumption | omega) | with_reducible exact ly_kPr hly (by first | assumption | omega) | with_reducible exact ly_kMt hly (by first | assumption | omega) (by first | assumption | omega) | with_reducible exact ly_kBc hly (by first | assumption | omega) (by first | assumption | omega) | with_reducible exact ly_kAh hly (by first | assumption | omega)) (by first | assumption | with_reducible exact aMt_0 | with_reducible exact aBc_0 | with_reducible exact aWm_0 | with_reducible exact aLd_0 | with_reducible exact aIc_0 | with_reducible exact aBe_0 | with_reducible exact aPr_0 | with_reducible exact aAh_0 | decide | omega) (by first | with_reducible rfl | with_reducible assumption | rfl) (by omega) dX5_setPrice_45 ?_
  refine jr_iload hX dX5_setPrice_46 rfl ?_
  exact jr_iret hX dX5_setPrice_48 rfl rfl ⟨rfl, rfl, rfl, rfl, rfl, rfl⟩
set_option maxHeartbeats 4000000 in
set_option maxRecDepth 100000 in
theorem c_harbour_ok {l : Launch} (hfl : l.stackTraces = false) {D : jj_D} {n : Nat} {K : jj_K} {I : jj_I} {P : jj_P} {G : jj_G} (hly : ly K P) {H M B N : Nat} {h : Nat} {t : Nat} (hs : sf 0 H M B N I) (h_h : h < H) (h_t : t < 8) :
    jj_Met l D yX5_harbour (jj_ws yX5_harbour cX5_harbour 3 (some .int)) { frames := 8, cells := 0, slots := 0, locals := 132 } [.ref 1, .int (nI h), .int (nI t)] n K I P G (jj_R (some (.int (q_hf h H B I t))) (n) (K) (I) (P) (G)) jj_noX := by
  refine jj_of hfl (by decide +kernel) [some (.ref 1), some (.int (nI h)), some (.int (nI t))] rfl rfl ?_
  intro X hXl hX hSt
  have hH := hs.1.1
  have hH2 := hs.1.2
  have hM := hs.2.1.1
  have hM2 := hs.2.1.2
  have hB := hs.2.2.1.1
  have hB2 := hs.2.2.1.2
  have hN := hs.2.2.2.1.1
  have hN2 := hs.2.2.2.1.2
  refine jr_aload_n hX dX5_harbour_0 rfl ?_
  refine jr_iload_n hX dX5_harbour_1 rfl ?_
  refine jr_void (jr_runV hX hSt kM_X5_54 (c_needHarbour_ok (jj_fl hX) hly h_h hH (by omega)) rfl rfl (ly_kI hly) ⟨_, _, rfl, by decide⟩ dX5_harbour_2 rfl ⟨jj_b1 rfl, jj_b1 rfl⟩ rfl) ?_
  refine jr_iload_n hX dX5_harbour_5 rfl ?_
  refine jr_bipush (v := 8) hX dX5_harbour_6 (by decide) ?_
  refine jr_void (jr_runS hX hSt kM_X5_29 (c_needIndex_ok (jj_fl hX) (a := t) (c := 8) h_t (by omega)) rfl rfl dX5_harbour_8 rfl ⟨jj_b1 rfl, jj_b1 rfl⟩ rfl) ?_
  refine jr_aload_n hX dX5_harbour_11 rfl ?_
  refine jr_iload_n hX dX5_harbour_12 rfl ?_
  refine jr_iload_n hX dX5_harbour_13 rfl ?_
  refine jr_ret (jr_runV hX hSt kM_X5_64 (c_harbourFact (jj_fl hX) hly hs h_h h_t) rfl rfl (ly_kI hly) ⟨_, _, rfl, by decide⟩ dX5_harbour_14 rfl ⟨jj_b1 rfl, jj_b1 rfl⟩ rfl) ?_
  exact jr_iret hX dX5_harbour_17 rfl rfl ⟨rfl, rfl, rfl, rfl, rfl, rfl⟩
set_option maxHeartbeats 4000000 in
set_option maxRecDepth 100000 in
theorem c_leg_ok {l : Launch} (hfl : l.stackTraces = false) {D : jj_D} {n : Nat} {K : jj_K} {I : jj_I} {P : jj_P} {G : jj_G} (hly : ly K P) {H M B N : Nat} {h : Nat} {t : Nat} (hs : sf 0 H M B N I) (h_h : h < H - 1) (h_t : t < 4) :
    jj_Met l D yX5_leg (jj_ws yX5_leg cX5_leg 3 (some .int)) { frames := 8, cells := 0, slots := 0, locals := 132 } [.ref 1, .int (nI h), .int (nI t)] n K I P G (jj_R (some (.int (q_lf h B I t))) (n) (K) (I) (P) (G)) jj_noX := by
  refine jj_of hfl (by decide +kernel) [some (.ref 1), some (.int (nI h)), some (.int (nI t))] rfl rfl ?_
  intro X hXl hX hSt
  have hH := hs.1.1
  have hH2 := hs.1.2
  have hM := hs.2.1.1
  have hM2 := hs.2.1.2
  have hB := hs.2.2.1.1
  have hB2 := hs.2.2.1.2
  have hN := hs.2.2.2.1.1
  have hN2 := hs.2.2.2.1.2
  refine jr_aload_n hX dX5_leg_0 rfl ?_
  refine jr_iload_n hX dX5_leg_1 rfl ?_
  refine jr_void (jr_runV hX hSt kM_X5_67 (c_needLeg_ok (jj_fl hX) hly (c := H - 1) h_h (by rw [show H - 1 + 1 = H by omega]; exact hH) (by omega) (by omega)) rfl rfl (ly_kI hly) ⟨_, _, rfl, by decide⟩ dX5_leg_2 rfl ⟨jj_b1 rfl, jj_b1 rfl⟩ rfl) ?_
  refine jr_iload_n hX dX5_leg_5 rfl ?_
  refine jr_iconst (v := 4) hX dX5_leg_6 (by decide) ?_
  refine jr_void (jr_runS hX hSt kM_X5_29 (c_needIndex_ok (jj_fl hX) (a := t) (c := 4) h_t (by omega)) rfl rfl dX5_leg_7 rfl ⟨jj_b1 rfl, jj_b1 rfl⟩ rfl) ?_
  refine jr_aload_n hX dX5_leg_10 rfl ?_
  refine jr_iload_n hX dX5_leg_11 rfl ?_
  refine jr_iload_n hX dX5_leg_12 rfl ?_
  refine jr_ret (jr_runV hX hSt kM_X5_70 (c_legFact (jj_fl hX) hly hs (by omega) h_t) rfl rfl (ly_kI hly) ⟨_, _, rfl, by decide⟩ dX5_leg_13 rfl ⟨jj_b1 rfl, jj_b1 rfl⟩ rfl) ?_
  exact jr_iret hX dX5_leg_16 rfl rfl ⟨rfl, rfl, rfl, rfl, rfl, rfl⟩
set_option maxHeartbeats 4000000 in
set_option maxRecDepth 100000 in
theorem c_addMerchant_ok {l : Launch} (hfl : l.stackTraces = false) {D : jj_D} {n : Nat} {K : jj_K} {I : jj_I} {P : jj_P} {G : jj_G} (hly : ly K P) {H M B N : Nat} {y : Int32} (hs : sf 0 H M B N I) (h_y : 0 ≤ y ∧ y ≤ 5000) (h_r : M < 5) :
    jj_Met l D yX5_addMerchant (jj_ws yX5_addMerchant cX5_addMerchant 3 (some .int)) { frames := 7, cells := 0, slots := 0, locals := 112 } [.ref 1, .int y] n K I P G (jj_R (some (.int (nI M))) (n) (K) (jj_u (jj_u I (aM 0 M) 0 y) (aW 0) 1 (nI (M + 1))) (P) (G)) jj_noX := by
  refine jj_of hfl (by decide +kernel) [some (.ref 1), some (.int y), none] rfl rfl ?_
  intro X hXl hX hSt
  have hH := hs.1.1
  have hH2 := hs.1.2
  have hM := hs.2.1.1
  have hM2 := hs.2.1.2
  have hB := hs.2.2.1.1
  have hB2 := hs.2.2.1.2
  have hN := hs.2.2.2.1.1
  have hN2 := hs.2.2.2.1.2
  refine jr_iload_n hX dX5_addMerchant_0 rfl ?_
  refine jr_iconst (v := 0) hX dX5_addMerchant_1 (by decide) ?_
  refine jr_sipush (v := 5000) hX dX5_addMerchant_2 (by decide) ?_
  refine jr_void (jr_runS hX hSt kM_X5_33 (c_needNumber_ok (jj_fl hX) h_y) rfl rfl dX5_addMerchant_5 rfl ⟨jj_b1 rfl, jj_b1 rfl⟩ rfl) ?_
  refine jr_aload_n hX dX5_addMerchant_8 rfl ?_
  refine jr_getr hX kF_X5_12 rfl (ly_kI hly) (ly_p5_0 hly) dX5_addMerchant_9 ?_
  refine jr_geti hX kF_X5_73 rfl (ly_kW hly (by first | assumption | omega)) dX5_addMerchant_12 ?_
  refine jr_iconst (v := 5) hX dX5_addMerchant_15 (by decide) ?_
  refine jr_void (jr_runS hX hSt kM_X5_47 (c_needRoom_ok (jj_fl hX) (show _ < nI 5 from by rw [hM]; exact nI_lt h_r (by omega))) rfl rfl dX5_addMerchant_16 rfl ⟨jj_b1 rfl, jj_b1 rfl⟩ rfl) ?_
  refine jr_aload_n hX dX5_addMerchant_19 rfl ?_
  refine jr_getr hX kF_X5_12 rfl (ly_kI hly) (ly_p5_0 hly) dX5_addMerchant_20 ?_
  refine jr_geti hX kF_X5_73 rfl (ly_kW hly (by first | assumption | omega)) dX5_addMerchant_23 ?_
  rw [hM]
  refine jr_istore_n hX dX5_addMerchant_26 rfl ?_
  refine jr_aload_n hX dX5_addMerchant_27 rfl ?_
  refine jr_getr hX kF_X5_12 rfl (ly_kI hly) (ly_p5_0 hly) dX5_addMerchant_28 ?_
  refine jr_getr hX kF_X5_76 rfl (ly_kW hly (by first | assumption | omega)) (ly_p4_4 hly (by first | assumption | omega)) dX5_addMerchant_31 ?_
  refine jr_iload_n hX dX5_addMerchant_34 rfl ?_
  refine jr_aMs hX hly (by first | assumption | omega) (by first | with_reducible rfl | with_reducible assumption | rfl) (by first | assumption | omega) dX5_addMerchant_35 ?_
  refine jr_iload_n hX dX5_addMerchant_36 rfl ?_
  refine jr_puti hX kF_X5_80 rfl (ly_kM hly (by first | assumption | omega) (by first | assumption | omega)) aM_0 dX5_addMerchant_37 ?_
  refine jr_aload_n hX dX5_addMerchant_40 rfl ?_
  refine jr_getr hX kF_X5_12 rfl (ly_kI hly) (ly_p5_0 hly) dX5_addMerchant_41 ?_
  refine jr_iload_n hX dX5_addMerchant_44 rfl ?_
  refine jr_iconst (v := 1) hX dX5_addMerchant_45 (by decide) ?_
  refine jr_iadd hX dX5_addMerchant_46 ?_
  rw [nI_1]
  refine jr_puti hX kF_X5_73 rfl (ly_kW hly (by first | assumption | omega)) aW_0 dX5_addMerchant_47 ?_
  refine jr_iload_n hX dX5_addMerchant_50 rfl ?_
  exact jr_iret hX dX5_addMerchant_51 rfl rfl ⟨rfl, rfl, rfl, rfl, rfl, rfl⟩
set_option maxHeartbeats 4000000 in
set_option maxRecDepth 100000 in
theorem c_bring_ok {l : Launch} (hfl : l.stackTraces = false) {D : jj_D} {n : Nat} {K : jj_K} {I : jj_I} {P : jj_P} {G : jj_G} (hly : ly K P) {H M B N : Nat} {m : Nat} {h : Nat} {g : Nat} {y : Int32} (hs : sf 0 H M B N I) (h_m : m < M) (h_h : h < H) (h_g : g < 4) (h_y : 1 ≤ y ∧ y ≤ 100) :
    jj_Met l D yX5_bring (jj_ws yX5_bring cX5_bring 6 (some .int)) { frames := 8, cells := 0, slots := 0, locals := 132 } [.ref 1, .int (nI m), .int (nI h), .int (nI g), .int y] n K I P G (jj_R (some (.int (jj_u I (aMt 0 m) (h * 4 + g) (I (aMt 0 m) (h * 4 + g) + y) (aMt 0 m) (h * 4 + g)))) (n) (K) (jj_u I (aMt 0 m) (h * 4 + g) (I (aMt 0 m) (h * 4 + g) + y)) (P) (G)) jj_noX := by
  refine jj_of hfl (by decide +kernel) [some (.ref 1), some (.int (nI m)), some (.int (nI h)), some (.int (nI g)), some (.int y), none] rfl rfl ?_
  intro X hXl hX hSt
  have hH := hs.1.1
  have hH2 := hs.1.2
  have hM := hs.2.1.1
  have hM2 := hs.2.1.2
  have hB := hs.2.2.1.1
  have hB2 := hs.2.2.1.2
  have hN := hs.2.2.2.1.1
  have hN2 := hs.2.2.2.1.2
  refine jr_aload_n hX dX5_bring_0 rfl ?_
  refine jr_iload_n hX dX5_bring_1 rfl ?_
  refine jr_void (jr_runV hX hSt kM_X5_85 (c_needMerchant_ok (jj_fl hX) hly h_m hM (by omega)) rfl rfl (ly_kI hly) ⟨_, _, rfl, by decide⟩ dX5_bring_2 rfl ⟨jj_b1 rfl, jj_b1 rfl⟩ rfl) ?_
  refine jr_aload_n hX dX5_bring_5 rfl ?_
  refine jr_iload_n hX dX5_bring_6 rfl ?_
  refine jr_void (jr_runV hX hSt kM_X5_54 (c_needHarbour_ok (jj_fl hX) hly h_h hH (by omega)) rfl rfl (ly_kI hly) ⟨_, _, rfl, by decide⟩ dX5_bring_7 rfl ⟨jj_b1 rfl, jj_b1 rfl⟩ rfl) ?_
  refine jr_iload_n hX dX5_bring_10 rfl ?_
  refine jr_iconst (v := 4) hX dX5_bring_11 (by decide) ?_
  refine jr_void (jr_runS hX hSt kM_X5_29 (c_needIndex_ok (jj_fl hX) (a := g) (c := 4) h_g (by omega)) rfl rfl dX5_bring_12 rfl ⟨jj_b1 rfl, jj_b1 rfl⟩ rfl) ?_
  refine jr_iload hX dX5_bring_15 rfl ?_
  refine jr_iconst (v := 1) hX dX5_bring_17 (by decide) ?_
  refine jr_bipush (v := 100) hX dX5_bring_18 (by decide) ?_
  refine jr_void (jr_runS hX hSt kM_X5_33 (c_needNumber_ok (jj_fl hX) h_y) rfl rfl dX5_bring_20 rfl ⟨jj_b1 rfl, jj_b1 rfl⟩ rfl) ?_
  refine jr_aload_n hX dX5_bring_23 rfl ?_
  refine jr_getr hX kF_X5_12 rfl (ly_kI hly) (ly_p5_0 hly) dX5_bring_24 ?_
  refine jr_getr hX kF_X5_76 rfl (ly_kW hly (by first | assumption | omega)) (ly_p4_4 hly (by first | assumption | omega)) dX5_bring_27 ?_
  refine jr_iload_n hX dX5_bring_30 rfl ?_
  refine jr_aMs hX hly (by first | assumption | omega) (by first | with_reducible rfl | with_reducible assumption | rfl) (by first | assumption | omega) dX5_bring_31 ?_
  refine jr_astore hX dX5_bring_32 rfl ?_
  refine jr_aload hX dX5_bring_34 rfl ?_
  refine jr_getr hX kF_X5_88 rfl (ly_kM hly (by first | assumption | omega) (by first | assumption | omega)) (ly_p2_1 hly (by first | assumption | omega) (by first | assumption | omega)) dX5_bring_36 ?_
  refine jr_iload_n hX dX5_bring_39 rfl ?_
  refine jr_iload_n hX dX5_bring_40 rfl ?_
  refine jr_ret (jr_runS hX hSt kM_X5_61 (c_X5_cellOf (jj_fl hX) (h := h) (g := g)) rfl rfl dX5_bring_41 rfl ⟨jj_b1 rfl, jj_b1 rfl⟩ rfl) ?_
  refine jr_dup2 hX dX5_bring_44 rfl rfl ?_
  refine jr_iald hX (by first | with_reducible assumption | with_reducible exact ly_kWm hly (by first | assumption | omega) | with_reducible exact ly_kLd hly (by first | assumption | omega) | with_reducible exact ly_kIc hly (by first | assumption | omega) | with_reducible exact ly_kBe hly (by first | assumption | omega) | with_reducible exact ly_kPr hly (by first | assumption | omega) | with_reducible exact ly_kMt hly (by first | assumption | omega) (by first | assumption | omega) | with_reducible exact ly_kBc hly (by first | assumption | omega) (by first | assumption | omega) | with_reducible exact ly_kAh hly (by first | assumption | omega)) (by first | with_reducible rfl | with_reducible assumption | rfl) (by omega) dX5_bring_45 ?_
  refine jr_iload hX dX5_bring_46 rfl ?_
  refine jr_iadd hX dX5_bring_48 ?_
  refine jr_iast hX (by first | with_reducible assumption | with_reducible exact ly_kWm hly (by first | assumption | omega) | with_reducible exact ly_kLd hly (by first | assumption | omega) | with_reducible exact ly_kIc hly (by first | assumption | omega) | with_reducible exact ly_kBe hly (by first | assumption | omega) | with_reducible exact ly_kPr hly (by first | assumption | omega) | with_reducible exact ly_kMt hly (by first | assumption | omega) (by first | assumption | omega) | with_reducible exact ly_kBc hly (by first | assumption | omega) (by first | assumption | omega) | with_reducible exact ly_kAh hly (by first | assumption | omega)) (by first | assumption | with_reducible exact aMt_0 | with_reducible exact aBc_0 | with_reducible exact aWm_0 | with_reducible exact aLd_0 | with_reducible exact aIc_0 | with_reducible exact aBe_0 | with_reducible exact aPr_0 | with_reducible exact aAh_0 | decide | omega) (by first | with_reducible rfl | with_reducible assumption | rfl) (by omega) dX5_bring_49 ?_
  refine jr_aload hX dX5_bring_50 rfl ?_
  refine jr_getr hX kF_X5_88 rfl (ly_kM hly (by first | assumption | omega) (by first | assumption | omega)) (ly_p2_1 hly (by first | assumption | omega) (by first | assumption | omega)) dX5_bring_52 ?_
  refine jr_iload_n hX dX5_bring_55 rfl ?_
  refine jr_iload_n hX dX5_bring_56 rfl ?_
  refine jr_ret (jr_runS hX hSt kM_X5_61 (c_X5_cellOf (jj_fl hX) (h := h) (g := g)) rfl rfl dX5_bring_57 rfl ⟨jj_b1 rfl, jj_b1 rfl⟩ rfl) ?_
  refine jr_iald hX (by first | with_reducible assumption | with_reducible exact ly_kWm hly (by first | assumption | omega) | with_reducible exact ly_kLd hly (by first | assumption | omega) | with_reducible exact ly_kIc hly (by first | assumption | omega) | with_reducible exact ly_kBe hly (by first | assumption | omega) | with_reducible exact ly_kPr hly (by first | assumption | omega) | with_reducible exact ly_kMt hly (by first | assumption | omega) (by first | assumption | omega) | with_reducible exact ly_kBc hly (by first | assumption | omega) (by first | assumption | omega) | with_reducible exact ly_kAh hly (by first | assumption | omega)) (by first | with_reducible rfl | with_reducible assumption | rfl) (by omega) dX5_bring_60 ?_
  exact jr_iret hX dX5_bring_61 rfl rfl ⟨rfl, rfl, rfl, rfl, rfl, rfl⟩
set_option maxHeartbeats 4000000 in
set_option maxRecDepth 100000 in
theorem c_sell_ok {l : Launch} (hfl : l.stackTraces = false) {D : jj_D} {n : Nat} {K : jj_K} {I : jj_I} {P : jj_P} {G : jj_G} (hly : ly K P) {H M B N : Nat} {m : Nat} {h : Nat} {g : Nat} {y : Int32} (hs : sf 0 H M B N I) (h_m : m < M) (h_h : h < H) (h_g : g < 4) (h_y : 1 ≤ y) (h_e : y ≤ I (aMt 0 m) (h * 4 + g)) :
    jj_Met l D yX5_sell (jj_ws yX5_sell cX5_sell 6 (some .int)) { frames := 8, cells := 0, slots := 0, locals := 132 } [.ref 1, .int (nI m), .int (nI h), .int (nI g), .int y] n K I P G (jj_R (some (.int (f_sell m (h * 4 + g) y I (aM 0 m) 0))) (n) (K) (f_sell m (h * 4 + g) y I) (P) (G)) jj_noX := by
  refine jj_of hfl (by decide +kernel) [some (.ref 1), some (.int (nI m)), some (.int (nI h)), some (.int (nI g)), some (.int y), none] rfl rfl ?_
  intro X hXl hX hSt
  have hH := hs.1.1
  have hH2 := hs.1.2
  have hM := hs.2.1.1
  have hM2 := hs.2.1.2
  have hB := hs.2.2.1.1
  have hB2 := hs.2.2.1.2
  have hN := hs.2.2.2.1.1
  have hN2 := hs.2.2.2.1.2
  refine jr_aload_n hX dX5_sell_0 rfl ?_
  refine jr_iload_n hX dX5_sell_1 rfl ?_
  refine jr_void (jr_runV hX hSt kM_X5_85 (c_needMerchant_ok (jj_fl hX) hly h_m hM (by omega)) rfl rfl (ly_kI hly) ⟨_, _, rfl, by decide⟩ dX5_sell_2 rfl ⟨jj_b1 rfl, jj_b1 rfl⟩ rfl) ?_
  refine jr_aload_n hX dX5_sell_5 rfl ?_
  refine jr_iload_n hX dX5_sell_6 rfl ?_
  refine jr_void (jr_runV hX hSt kM_X5_54 (c_needHarbour_ok (jj_fl hX) hly h_h hH (by omega)) rfl rfl (ly_kI hly) ⟨_, _, rfl, by decide⟩ dX5_sell_7 rfl ⟨jj_b1 rfl, jj_b1 rfl⟩ rfl) ?_
  refine jr_iload_n hX dX5_sell_10 rfl ?_
  refine jr_iconst (v := 4) hX dX5_sell_11 (by decide) ?_
  refine jr_void (jr_runS hX hSt kM_X5_29 (c_needIndex_ok (jj_fl hX) (a := g) (c := 4) h_g (by omega)) rfl rfl dX5_sell_12 rfl ⟨jj_b1 rfl, jj_b1 rfl⟩ rfl) ?_
  refine jr_iload hX dX5_sell_15 rfl ?_
  refine jr_iconst (v := 1) hX dX5_sell_17 (by decide) ?_
  refine jr_void (jr_runS hX hSt kM_X5_91 (c_needAtLeast_ok (jj_fl hX) h_y) rfl rfl dX5_sell_18 rfl ⟨jj_b1 rfl, jj_b1 rfl⟩ rfl) ?_
  refine jr_aload_n hX dX5_sell_21 rfl ?_
  refine jr_getr hX kF_X5_12 rfl (ly_kI hly) (ly_p5_0 hly) dX5_sell_22 ?_
  refine jr_getr hX kF_X5_76 rfl (ly_kW hly (by first | assumption | omega)) (ly_p4_4 hly (by first | assumption | omega)) dX5_sell_25 ?_
  refine jr_iload_n hX dX5_sell_28 rfl ?_
  refine jr_aMs hX hly (by first | assumption | omega) (by first | with_reducible rfl | with_reducible assumption | rfl) (by first | assumption | omega) dX5_sell_29 ?_
  refine jr_astore hX dX5_sell_30 rfl ?_
  refine jr_aload hX dX5_sell_32 rfl ?_
  refine jr_getr hX kF_X5_88 rfl (ly_kM hly (by first | assumption | omega) (by first | assumption | omega)) (ly_p2_1 hly (by first | assumption | omega) (by first | assumption | omega)) dX5_sell_34 ?_
  refine jr_iload_n hX dX5_sell_37 rfl ?_
  refine jr_iload_n hX dX5_sell_38 rfl ?_
  refine jr_ret (jr_runS hX hSt kM_X5_61 (c_X5_cellOf (jj_fl hX) (h := h) (g := g)) rfl rfl dX5_sell_39 rfl ⟨jj_b1 rfl, jj_b1 rfl⟩ rfl) ?_
  refine jr_iald hX (by first | with_reducible assumption | with_reducible exact ly_kWm hly (by first | assumption | omega) | with_reducible exact ly_kLd hly (by first | assumption | omega) | with_reducible exact ly_kIc hly (by first | assumption | omega) | with_reducible exact ly_kBe hly (by first | assumption | omega) | with_reducible exact ly_kPr hly (by first | assumption | omega) | with_reducible exact ly_kMt hly (by first | assumption | omega) (by first | assumption | omega) | with_reducible exact ly_kBc hly (by first | assumption | omega) (by first | assumption | omega) | with_reducible exact ly_kAh hly (by first | assumption | omega)) (by first | with_reducible rfl | with_reducible assumption | rfl) (by omega) dX5_sell_42 ?_
  refine jr_iload hX dX5_sell_43 rfl ?_
  refine jr_void (jr_runS hX hSt kM_X5_94 (c_needEnough_ok (jj_fl hX) h_e) rfl rfl dX5_sell_45 rfl ⟨jj_b1 rfl, jj_b1 rfl⟩ rfl) ?_
  refine jr_aload hX dX5_sell_48 rfl ?_
  refine jr_getr hX kF_X5_88 rfl (ly_kM hly (by first | assumption | omega) (by first | assumption | omega)) (ly_p2_1 hly (by first | assumption | omega) (by first | assumption | omega)) dX5_sell_50 ?_
  refine jr_iload_n hX dX5_sell_53 rfl ?_
  refine jr_iload_n hX dX5_sell_54 rfl ?_
  refine jr_ret (jr_runS hX hSt kM_X5_61 (c_X5_cellOf (jj_fl hX) (h := h) (g := g)) rfl rfl dX5_sell_55 rfl ⟨jj_b1 rfl, jj_b1 rfl⟩ rfl) ?_
  refine jr_dup2 hX dX5_sell_58 rfl rfl ?_
  refine jr_iald hX (by first | with_reducible assumption | with_reducible exact ly_kWm hly (by first | assumption | omega) | with_reducible exact ly_kLd hly (by first | assumption | omega) | with_reducible exact ly_kIc hly (by first | assumption | omega) | with_reducible exact ly_kBe hly (by first | assumption | omega) | with_reducible exact ly_kPr hly (by first | assumption | omega) | with_reducible exact ly_kMt hly (by first | assumption | omega) (by first | assumption | omega) | with_reducible exact ly_kBc hly (by first | assumption | omega) (by first | assumption | omega) | with_reducible exact ly_kAh hly (by first | assumption | omega)) (by first | with_reducible rfl | with_reducible assumption | rfl) (by omega) dX5_sell_59 ?_
  refine jr_iload hX dX5_sell_60 rfl ?_
  refine jr_isub hX dX5_sell_62 ?_
  refine jr_iast hX (by first | with_reducible assumption | with_reducible exact ly_kWm hly (by first | assumption | omega) | with_reducible exact ly_kLd hly (by first | assumption | omega) | with_reducible exact ly_kIc hly (by first | assumption | omega) | with_reducible exact ly_kBe hly (by first | assumption | omega) | with_reducible exact ly_kPr hly (by first | assumption | omega) | with_reducible exact ly_kMt hly (by first | assumption | omega) (by first | assumption | omega) | with_reducible exact ly_kBc hly (by first | assumption | omega) (by first | assumption | omega) | with_reducible exact ly_kAh hly (by first | assumption | omega)) (by first | assumption | with_reducible exact aMt_0 | with_reducible exact aBc_0 | with_reducible exact aWm_0 | with_reducible exact aLd_0 | with_reducible exact aIc_0 | with_reducible exact aBe_0 | with_reducible exact aPr_0 | with_reducible exact aAh_0 | decide | omega) (by first | with_reducible rfl | with_reducible assumption | rfl) (by omega) dX5_sell_63 ?_
  refine jr_aload hX dX5_sell_64 rfl ?_
  refine jr_dup hX dX5_sell_66 rfl ?_
  refine jr_geti hX kF_X5_80 rfl (ly_kM hly (by first | assumption | omega) (by first | assumption | omega)) dX5_sell_67 ?_
  refine jr_iload hX dX5_sell_70 rfl ?_
  refine jr_aload_n hX dX5_sell_72 rfl ?_
  refine jr_getr hX kF_X5_20 rfl (ly_kI hly) (ly_p5_1 hly) dX5_sell_73 ?_
  refine jr_getr hX kF_X5_58 rfl (ly_kR hly (by first | assumption | omega)) (ly_p3_6 hly (by first | assumption | omega)) dX5_sell_76 ?_
  refine jr_iload_n hX dX5_sell_79 rfl ?_
  refine jr_iload_n hX dX5_sell_80 rfl ?_
  refine jr_ret (jr_runS hX hSt kM_X5_61 (c_X5_cellOf (jj_fl hX) (h := h) (g := g)) rfl rfl dX5_sell_81 rfl ⟨jj_b1 rfl, jj_b1 rfl⟩ rfl) ?_
  refine jr_iald hX (by first | with_reducible assumption | with_reducible exact ly_kWm hly (by first | assumption | omega) | with_reducible exact ly_kLd hly (by first | assumption | omega) | with_reducible exact ly_kIc hly (by first | assumption | omega) | with_reducible exact ly_kBe hly (by first | assumption | omega) | with_reducible exact ly_kPr hly (by first | assumption | omega) | with_reducible exact ly_kMt hly (by first | assumption | omega) (by first | assumption | omega) | with_reducible exact ly_kBc hly (by first | assumption | omega) (by first | assumption | omega) | with_reducible exact ly_kAh hly (by first | assumption | omega)) (by first | with_reducible rfl | with_reducible assumption | rfl) (by omega) dX5_sell_84 ?_
  refine jr_imul hX dX5_sell_85 ?_
  refine jr_iadd hX dX5_sell_86 ?_
  refine jr_puti hX kF_X5_80 rfl (ly_kM hly (by first | assumption | omega) (by first | assumption | omega)) aM_0 dX5_sell_87 ?_
  refine jr_aload hX dX5_sell_90 rfl ?_
  refine jr_geti hX kF_X5_80 rfl (ly_kM hly (by first | assumption | omega) (by first | assumption | omega)) dX5_sell_92 ?_
  exact jr_iret hX dX5_sell_95 rfl rfl ⟨rfl, rfl, rfl, rfl, rfl, rfl⟩
set_option maxHeartbeats 4000000 in
set_option maxRecDepth 100000 in
theorem c_stock_ok {l : Launch} (hfl : l.stackTraces = false) {D : jj_D} {n : Nat} {K : jj_K} {I : jj_I} {P : jj_P} {G : jj_G} (hly : ly K P) {H M B N : Nat} {m : Nat} {h : Nat} {g : Nat} (hs : sf 0 H M B N I) (h_m : m < M) (h_h : h < H) (h_g : g < 4) :
    jj_Met l D yX5_stock (jj_ws yX5_stock cX5_stock 4 (some .int)) { frames := 8, cells := 0, slots := 0, locals := 132 } [.ref 1, .int (nI m), .int (nI h), .int (nI g)] n K I P G (jj_R (some (.int (I (aMt 0 m) (h * 4 + g)))) (n) (K) (I) (P) (G)) jj_noX := by
  refine jj_of hfl (by decide +kernel) [some (.ref 1), some (.int (nI m)), some (.int (nI h)), some (.int (nI g))] rfl rfl ?_
  intro X hXl hX hSt
  have hH := hs.1.1
  have hH2 := hs.1.2
  have hM := hs.2.1.1
  have hM2 := hs.2.1.2
  have hB := hs.2.2.1.1
  have hB2 := hs.2.2.1.2
  have hN := hs.2.2.2.1.1
  have hN2 := hs.2.2.2.1.2
  refine jr_aload_n hX dX5_stock_0 rfl ?_
  refine jr_iload_n hX dX5_stock_1 rfl ?_
  refine jr_void (jr_runV hX hSt kM_X5_85 (c_needMerchant_ok (jj_fl hX) hly h_m hM (by omega)) rfl rfl (ly_kI hly) ⟨_, _, rfl, by decide⟩ dX5_stock_2 rfl ⟨jj_b1 rfl, jj_b1 rfl⟩ rfl) ?_
  refine jr_aload_n hX dX5_stock_5 rfl ?_
  refine jr_iload_n hX dX5_stock_6 rfl ?_
  refine jr_void (jr_runV hX hSt kM_X5_54 (c_needHarbour_ok (jj_fl hX) hly h_h hH (by omega)) rfl rfl (ly_kI hly) ⟨_, _, rfl, by decide⟩ dX5_stock_7 rfl ⟨jj_b1 rfl, jj_b1 rfl⟩ rfl) ?_
  refine jr_iload_n hX dX5_stock_10 rfl ?_
  refine jr_iconst (v := 4) hX dX5_stock_11 (by decide) ?_
  refine jr_void (jr_runS hX hSt kM_X5_29 (c_needIndex_ok (jj_fl hX) (a := g) (c := 4) h_g (by omega)) rfl rfl dX5_stock_12 rfl ⟨jj_b1 rfl, jj_b1 rfl⟩ rfl) ?_
  refine jr_aload_n hX dX5_stock_15 rfl ?_
  refine jr_getr hX kF_X5_12 rfl (ly_kI hly) (ly_p5_0 hly) dX5_stock_16 ?_
  refine jr_getr hX kF_X5_76 rfl (ly_kW hly (by first | assumption | omega)) (ly_p4_4 hly (by first | assumption | omega)) dX5_stock_19 ?_
  refine jr_iload_n hX dX5_stock_22 rfl ?_
  refine jr_aMs hX hly (by first | assumption | omega) (by first | with_reducible rfl | with_reducible assumption | rfl) (by first | assumption | omega) dX5_stock_23 ?_
  refine jr_getr hX kF_X5_88 rfl (ly_kM hly (by first | assumption | omega) (by first | assumption | omega)) (ly_p2_1 hly (by first | assumption | omega) (by first | assumption | omega)) dX5_stock_24 ?_
  refine jr_iload_n hX dX5_stock_27 rfl ?_
  refine jr_iload_n hX dX5_stock_28 rfl ?_
  refine jr_ret (jr_runS hX hSt kM_X5_61 (c_X5_cellOf (jj_fl hX) (h := h) (g := g)) rfl rfl dX5_stock_29 rfl ⟨jj_b1 rfl, jj_b1 rfl⟩ rfl) ?_
  refine jr_iald hX (by first | with_reducible assumption | with_reducible exact ly_kWm hly (by first | assumption | omega) | with_reducible exact ly_kLd hly (by first | assumption | omega) | with_reducible exact ly_kIc hly (by first | assumption | omega) | with_reducible exact ly_kBe hly (by first | assumption | omega) | with_reducible exact ly_kPr hly (by first | assumption | omega) | with_reducible exact ly_kMt hly (by first | assumption | omega) (by first | assumption | omega) | with_reducible exact ly_kBc hly (by first | assumption | omega) (by first | assumption | omega) | with_reducible exact ly_kAh hly (by first | assumption | omega)) (by first | with_reducible rfl | with_reducible assumption | rfl) (by omega) dX5_stock_32 ?_
  exact jr_iret hX dX5_stock_33 rfl rfl ⟨rfl, rfl, rfl, rfl, rfl, rfl⟩
set_option maxHeartbeats 4000000 in
set_option maxRecDepth 100000 in
theorem c_merchant_ok {l : Launch} (hfl : l.stackTraces = false) {D : jj_D} {n : Nat} {K : jj_K} {I : jj_I} {P : jj_P} {G : jj_G} (hly : ly K P) {H M B N : Nat} {m : Nat} {t : Nat} (hs : sf 0 H M B N I) (h_m : m < M) (h_t : t < 6) :
    jj_Met l D yX5_merchant (jj_ws yX5_merchant cX5_merchant 3 (some .int)) { frames := 8, cells := 0, slots := 0, locals := 132 } [.ref 1, .int (nI m), .int (nI t)] n K I P G (jj_R (some (.int (q_mf m B N I t))) (n) (K) (I) (P) (G)) jj_noX := by
  refine jj_of hfl (by decide +kernel) [some (.ref 1), some (.int (nI m)), some (.int (nI t))] rfl rfl ?_
  intro X hXl hX hSt
  have hH := hs.1.1
  have hH2 := hs.1.2
  have hM := hs.2.1.1
  have hM2 := hs.2.1.2
  have hB := hs.2.2.1.1
  have hB2 := hs.2.2.1.2
  have hN := hs.2.2.2.1.1
  have hN2 := hs.2.2.2.1.2
  refine jr_aload_n hX dX5_merchant_0 rfl ?_
  refine jr_iload_n hX dX5_merchant_1 rfl ?_
  refine jr_void (jr_runV hX hSt kM_X5_85 (c_needMerchant_ok (jj_fl hX) hly h_m hM (by omega)) rfl rfl (ly_kI hly) ⟨_, _, rfl, by decide⟩ dX5_merchant_2 rfl ⟨jj_b1 rfl, jj_b1 rfl⟩ rfl) ?_
  refine jr_iload_n hX dX5_merchant_5 rfl ?_
  refine jr_bipush (v := 6) hX dX5_merchant_6 (by decide) ?_
  refine jr_void (jr_runS hX hSt kM_X5_29 (c_needIndex_ok (jj_fl hX) (a := t) (c := 6) h_t (by omega)) rfl rfl dX5_merchant_8 rfl ⟨jj_b1 rfl, jj_b1 rfl⟩ rfl) ?_
  refine jr_aload_n hX dX5_merchant_11 rfl ?_
  refine jr_iload_n hX dX5_merchant_12 rfl ?_
  refine jr_iload_n hX dX5_merchant_13 rfl ?_
  refine jr_ret (jr_runV hX hSt kM_X5_97 (c_merchantFact (jj_fl hX) hly hs (by omega) h_t) rfl rfl (ly_kI hly) ⟨_, _, rfl, by decide⟩ dX5_merchant_14 rfl ⟨jj_b1 rfl, jj_b1 rfl⟩ rfl) ?_
  exact jr_iret hX dX5_merchant_17 rfl rfl ⟨rfl, rfl, rfl, rfl, rfl, rfl⟩
set_option maxHeartbeats 4000000 in
set_option maxRecDepth 100000 in
theorem c_build_ok {l : Launch} (hfl : l.stackTraces = false) {D : jj_D} {n : Nat} {K : jj_K} {I : jj_I} {P : jj_P} {G : jj_G} (hly : ly K P) {H M B N : Nat} {m : Nat} {h : Nat} {y : Int32} (hs : sf 0 H M B N I) (h_m : m < M) (h_h : h < H) (h_y : 1 ≤ y ∧ y ≤ 60) (h_r : B < 10) :
    jj_Met l D yX5_build (jj_ws yX5_build cX5_build 5 (some .int)) { frames := 8, cells := 0, slots := 0, locals := 132 } [.ref 1, .int (nI m), .int (nI h), .int y] n K I P G (jj_R (some (.int (nI B))) (n) (K) (jj_u (f_la 0 B (nI m) (nI h) y I) (aW 0) 2 (nI (B + 1))) (P) (G)) jj_noX := by
  refine jj_of hfl (by decide +kernel) [some (.ref 1), some (.int (nI m)), some (.int (nI h)), some (.int y), none] rfl rfl ?_
  intro X hXl hX hSt
  have hH := hs.1.1
  have hH2 := hs.1.2
  have hM := hs.2.1.1
  have hM2 := hs.2.1.2
  have hB := hs.2.2.1.1
  have hB2 := hs.2.2.1.2
  have hN := hs.2.2.2.1.1
  have hN2 := hs.2.2.2.1.2
  refine jr_aload_n hX dX5_build_0 rfl ?_
  refine jr_iload_n hX dX5_build_1 rfl ?_
  refine jr_void (jr_runV hX hSt kM_X5_85 (c_needMerchant_ok (jj_fl hX) hly h_m hM (by omega)) rfl rfl (ly_kI hly) ⟨_, _, rfl, by decide⟩ dX5_build_2 rfl ⟨jj_b1 rfl, jj_b1 rfl⟩ rfl) ?_
  refine jr_aload_n hX dX5_build_5 rfl ?_
  refine jr_iload_n hX dX5_build_6 rfl ?_
  refine jr_void (jr_runV hX hSt kM_X5_54 (c_needHarbour_ok (jj_fl hX) hly h_h hH (by omega)) rfl rfl (ly_kI hly) ⟨_, _, rfl, by decide⟩ dX5_build_7 rfl ⟨jj_b1 rfl, jj_b1 rfl⟩ rfl) ?_
  refine jr_iload_n hX dX5_build_10 rfl ?_
  refine jr_iconst (v := 1) hX dX5_build_11 (by decide) ?_
  refine jr_bipush (v := 60) hX dX5_build_12 (by decide) ?_
  refine jr_void (jr_runS hX hSt kM_X5_33 (c_needNumber_ok (jj_fl hX) h_y) rfl rfl dX5_build_14 rfl ⟨jj_b1 rfl, jj_b1 rfl⟩ rfl) ?_
  refine jr_aload_n hX dX5_build_17 rfl ?_
  refine jr_getr hX kF_X5_12 rfl (ly_kI hly) (ly_p5_0 hly) dX5_build_18 ?_
  refine jr_geti hX kF_X5_100 rfl (ly_kW hly (by first | assumption | omega)) dX5_build_21 ?_
  refine jr_bipush (v := 10) hX dX5_build_24 (by decide) ?_
  refine jr_void (jr_runS hX hSt kM_X5_47 (c_needRoom_ok (jj_fl hX) (show _ < nI 10 from by rw [hB]; exact nI_lt h_r (by omega))) rfl rfl dX5_build_26 rfl ⟨jj_b1 rfl, jj_b1 rfl⟩ rfl) ?_
  refine jr_aload_n hX dX5_build_29 rfl ?_
  refine jr_getr hX kF_X5_12 rfl (ly_kI hly) (ly_p5_0 hly) dX5_build_30 ?_
  refine jr_geti hX kF_X5_100 rfl (ly_kW hly (by first | assumption | omega)) dX5_build_33 ?_
  rw [hB]
  refine jr_istore hX dX5_build_36 rfl ?_
  refine jr_aload_n hX dX5_build_38 rfl ?_
  refine jr_getr hX kF_X5_12 rfl (ly_kI hly) (ly_p5_0 hly) dX5_build_39 ?_
  refine jr_getr hX kF_X5_103 rfl (ly_kW hly (by first | assumption | omega)) (ly_p4_5 hly (by first | assumption | omega)) dX5_build_42 ?_
  refine jr_iload hX dX5_build_45 rfl ?_
  refine jr_aBs hX hly (by first | assumption | omega) (by first | with_reducible rfl | with_reducible assumption | rfl) (by first | assumption | omega) dX5_build_47 ?_
  refine jr_iload_n hX dX5_build_48 rfl ?_
  refine jr_iload_n hX dX5_build_49 rfl ?_
  refine jr_iload_n hX dX5_build_50 rfl ?_
  refine jr_void (jr_runV hX hSt kM_X5_107 (c_X0_launch (jj_fl hX) hly (by omega) h_r) rfl rfl (ly_kB hly (by first | assumption | omega) (by first | assumption | omega)) ⟨_, _, rfl, by decide⟩ dX5_build_51 rfl ⟨jj_b1 rfl, jj_b1 rfl⟩ rfl) ?_
  refine jr_aload_n hX dX5_build_54 rfl ?_
  refine jr_getr hX kF_X5_12 rfl (ly_kI hly) (ly_p5_0 hly) dX5_build_55 ?_
  refine jr_iload hX dX5_build_58 rfl ?_
  refine jr_iconst (v := 1) hX dX5_build_60 (by decide) ?_
  refine jr_iadd hX dX5_build_61 ?_
  rw [nI_1]
  refine jr_puti hX kF_X5_100 rfl (ly_kW hly (by first | assumption | omega)) aW_0 dX5_build_62 ?_
  refine jr_iload hX dX5_build_65 rfl ?_
  exact jr_iret hX dX5_build_67 rfl rfl ⟨rfl, rfl, rfl, rfl, rfl, rfl⟩
set_option maxHeartbeats 4000000 in
set_option maxRecDepth 100000 in
theorem c_load_ok {l : Launch} (hfl : l.stackTraces = false) {D : jj_D} {n : Nat} {K : jj_K} {I : jj_I} {P : jj_P} {G : jj_G} (hly : ly K P) {H M B N : Nat} {b : Nat} {g : Nat} {y : Int32} (hs : sf 0 H M B N I) (h_b : b < B) (h_g : g < 4) (h_y : -60 ≤ y ∧ y ≤ 60) (h_0 : ¬ y = 0) (h_i : I (aB 0 b) 3 = 0 ∨ I (aB 0 b) 3 = 1) (h_e : (if 0 ≤ y then y else 0 - y) ≤ (if 0 < y then I (aMt 0 (nv (I (aB 0 b) 0))) (nv (I (aB 0 b) 4) * 4 + g) else I (aBc 0 b) g)) (h_f : y ≤ I (aB 0 b) 2 - sm (I (aBc 0 b)) 4) :
    jj_Met l D yX5_load (jj_ws yX5_load cX5_load 7 (some .int)) { frames := 8, cells := 0, slots := 0, locals := 132 } [.ref 1, .int (nI b), .int (nI g), .int y] n K I P G (jj_R (some (.int (sm (f_load b g y I (aBc 0 b)) 4))) (n) (K) (f_load b g y I) (P) (G)) jj_noX := by
  refine jj_of hfl (by decide +kernel) [some (.ref 1), some (.int (nI b)), some (.int (nI g)), some (.int y), none, none, none] rfl rfl ?_
  intro X hXl hX hSt
  have hH := hs.1.1
  have hH2 := hs.1.2
  have hM := hs.2.1.1
  have hM2 := hs.2.1.2
  have hB := hs.2.2.1.1
  have hB2 := hs.2.2.1.2
  have hN := hs.2.2.2.1.1
  have hN2 := hs.2.2.2.1.2
  obtain ⟨⟨o, ho, eo⟩, hp, h4, hl, ⟨g0, hg0, eg0⟩⟩ := hs.2.2.2.2.1 b h_b
  have xo : I (aB 0 b) 0 = nI (nv (I (aB 0 b) 0)) := by rw [eo, nv_nI (by omega)]
  have xo2 : nv (I (aB 0 b) 0) < 5 := by rw [eo, nv_nI (by omega)]; exact ho
  obtain ⟨h0, hh0, eh0⟩ := h4 (by rcases h_i with e | e <;> rw [e] <;> decide)
  have xh : I (aB 0 b) 4 = nI (nv (I (aB 0 b) 4)) := by rw [eh0, nv_nI (by omega)]
  have xh2 : nv (I (aB 0 b) 4) < H := by rw [eh0, nv_nI (by omega)]; exact hh0
  refine jr_aload_n hX dX5_load_0 rfl ?_
  refine jr_iload_n hX dX5_load_1 rfl ?_
  refine jr_void (jr_runV hX hSt kM_X5_112 (c_needBoat_ok (jj_fl hX) hly h_b hB (by omega)) rfl rfl (ly_kI hly) ⟨_, _, rfl, by decide⟩ dX5_load_2 rfl ⟨jj_b1 rfl, jj_b1 rfl⟩ rfl) ?_
  refine jr_iload_n hX dX5_load_5 rfl ?_
  refine jr_iconst (v := 4) hX dX5_load_6 (by decide) ?_
  refine jr_void (jr_runS hX hSt kM_X5_29 (c_needIndex_ok (jj_fl hX) (a := g) (c := 4) h_g (by omega)) rfl rfl dX5_load_7 rfl ⟨jj_b1 rfl, jj_b1 rfl⟩ rfl) ?_
  refine jr_iload_n hX dX5_load_10 rfl ?_
  refine jr_bipush (v := -60) hX dX5_load_11 (by decide) ?_
  refine jr_bipush (v := 60) hX dX5_load_13 (by decide) ?_
  refine jr_void (jr_runS hX hSt kM_X5_33 (c_needNumber_ok (jj_fl hX) h_y) rfl rfl dX5_load_15 rfl ⟨jj_b1 rfl, jj_b1 rfl⟩ rfl) ?_
  refine jr_iload_n hX dX5_load_18 rfl ?_
  refine jr_if_ne (tgt := 32) hX dX5_load_19 (by decide) (fun c_19 => ?_) (fun c_19 => absurd c_19 h_0)
  refine jr_aload_n hX dX5_load_32 rfl ?_
  refine jr_getr hX kF_X5_12 rfl (ly_kI hly) (ly_p5_0 hly) dX5_load_33 ?_
  refine jr_getr hX kF_X5_103 rfl (ly_kW hly (by first | assumption | omega)) (ly_p4_5 hly (by first | assumption | omega)) dX5_load_36 ?_
  refine jr_iload_n hX dX5_load_39 rfl ?_
  refine jr_aBs hX hly (by first | assumption | omega) (by first | with_reducible rfl | with_reducible assumption | rfl) (by first | assumption | omega) dX5_load_40 ?_
  refine jr_astore hX dX5_load_41 rfl ?_
  refine jr_aload hX dX5_load_43 rfl ?_
  refine jr_void (jr_runS hX hSt kM_X5_122 (c_needInHarbour_ok (jj_fl hX) hly (by omega) h_i) rfl rfl dX5_load_45 rfl ⟨jj_b1 rfl, jj_b1 rfl⟩ rfl) ?_
  refine jr_aload_n hX dX5_load_48 rfl ?_
  refine jr_getr hX kF_X5_12 rfl (ly_kI hly) (ly_p5_0 hly) dX5_load_49 ?_
  refine jr_getr hX kF_X5_76 rfl (ly_kW hly (by first | assumption | omega)) (ly_p4_4 hly (by first | assumption | omega)) dX5_load_52 ?_
  refine jr_aload hX dX5_load_55 rfl ?_
  refine jr_geti hX kF_X5_126 rfl (ly_kB hly (by first | assumption | omega) (by first | assumption | omega)) dX5_load_57 ?_
  refine jr_aMs hX hly (by first | assumption | omega) (by first | with_reducible rfl | with_reducible assumption | rfl) (by first | assumption | omega) dX5_load_60 ?_
  refine jr_astore hX dX5_load_61 rfl ?_
  refine jr_aload hX dX5_load_63 rfl ?_
  refine jr_geti hX kF_X5_129 rfl (ly_kB hly (by first | assumption | omega) (by first | assumption | omega)) dX5_load_65 ?_
  refine jr_iload_n hX dX5_load_68 rfl ?_
  rw [xh]
  refine jr_ret (jr_runS hX hSt kM_X5_61 (c_X5_cellOf (jj_fl hX) (h := nv (I (aB 0 b) 4)) (g := g)) rfl rfl dX5_load_69 rfl ⟨jj_b1 rfl, jj_b1 rfl⟩ rfl) ?_
  refine jr_istore hX dX5_load_72 rfl ?_
  refine jr_iload_n hX dX5_load_74 rfl ?_
  refine jr_if_le (tgt := 89) hX dX5_load_75 (by decide) (fun c_75 => ?_) (fun c_75 => ?_)
  · refine jr_aload hX dX5_load_89 rfl ?_
    refine jr_getr hX kF_X5_132 rfl (ly_kB hly (by first | assumption | omega) (by first | assumption | omega)) (ly_p0_8 hly (by first | assumption | omega) (by first | assumption | omega)) dX5_load_91 ?_
    refine jr_iload_n hX dX5_load_94 rfl ?_
    refine jr_iald hX (by first | with_reducible assumption | with_reducible exact ly_kWm hly (by first | assumption | omega) | with_reducible exact ly_kLd hly (by first | assumption | omega) | with_reducible exact ly_kIc hly (by first | assumption | omega) | with_reducible exact ly_kBe hly (by first | assumption | omega) | with_reducible exact ly_kPr hly (by first | assumption | omega) | with_reducible exact ly_kMt hly (by first | assumption | omega) (by first | assumption | omega) | with_reducible exact ly_kBc hly (by first | assumption | omega) (by first | assumption | omega) | with_reducible exact ly_kAh hly (by first | assumption | omega)) (by first | with_reducible rfl | with_reducible assumption | rfl) (by omega) dX5_load_95 ?_
    refine jr_iload_n hX dX5_load_96 rfl ?_
    refine jr_mabs (y := 0) hX kM_X5_135 dX5_load_97 rfl ⟨jj_b1 rfl, jj_b1 rfl⟩ ?_
    refine jr_void (jr_runS hX hSt kM_X5_94 (c_needEnough_ok (jj_fl hX) (by rw [if_neg (Int32.not_lt.mpr c_75)] at h_e; exact h_e)) rfl rfl dX5_load_100 rfl ⟨jj_b1 rfl, jj_b1 rfl⟩ rfl) ?_
    refine jr_aload hX dX5_load_103 rfl ?_
    refine jr_geti hX kF_X5_141 rfl (ly_kB hly (by first | assumption | omega) (by first | assumption | omega)) dX5_load_105 ?_
    refine jr_aload hX dX5_load_108 rfl ?_
    refine jr_ret (jr_runV hX hSt kM_X5_144 (c_X0_allCargo (jj_fl hX) hly (by omega) (by omega)) rfl rfl (ly_kB hly (by first | assumption | omega) (by first | assumption | omega)) ⟨_, _, rfl, by decide⟩ dX5_load_110 rfl ⟨jj_b1 rfl, jj_b1 rfl⟩ rfl) ?_
    refine jr_isub hX dX5_load_113 ?_
    refine jr_iload_n hX dX5_load_114 rfl ?_
    refine jr_void (jr_runS hX hSt kM_X5_94 (c_needEnough_ok (jj_fl hX) h_f) rfl rfl dX5_load_115 rfl ⟨jj_b1 rfl, jj_b1 rfl⟩ rfl) ?_
    refine jr_aload hX dX5_load_118 rfl ?_
    refine jr_getr hX kF_X5_88 rfl (ly_kM hly (by first | assumption | omega) (by first | assumption | omega)) (ly_p2_1 hly (by first | assumption | omega) (by first | assumption | omega)) dX5_load_120 ?_
    refine jr_iload hX dX5_load_123 rfl ?_
    refine jr_dup2 hX dX5_load_125 rfl rfl ?_
    refine jr_iald hX (by first | with_reducible assumption | with_reducible exact ly_kWm hly (by first | assumption | omega) | with_reducible exact ly_kLd hly (by first | assumption | omega) | with_reducible exact ly_kIc hly (by first | assumption | omega) | with_reducible exact ly_kBe hly (by first | assumption | omega) | with_reducible exact ly_kPr hly (by first | assumption | omega) | with_reducible exact ly_kMt hly (by first | assumption | omega) (by first | assumption | omega) | with_reducible exact ly_kBc hly (by first | assumption | omega) (by first | assumption | omega) | with_reducible exact ly_kAh hly (by first | assumption | omega)) (by first | with_reducible rfl | with_reducible assumption | rfl) (by omega) dX5_load_126 ?_
    refine jr_iload_n hX dX5_load_127 rfl ?_
    refine jr_isub hX dX5_load_128 ?_
    refine jr_iast hX (by first | with_reducible assumption | with_reducible exact ly_kWm hly (by first | assumption | omega) | with_reducible exact ly_kLd hly (by first | assumption | omega) | with_reducible exact ly_kIc hly (by first | assumption | omega) | with_reducible exact ly_kBe hly (by first | assumption | omega) | with_reducible exact ly_kPr hly (by first | assumption | omega) | with_reducible exact ly_kMt hly (by first | assumption | omega) (by first | assumption | omega) | with_reducible exact ly_kBc hly (by first | assumption | omega) (by first | assumption | omega) | with_reducible exact ly_kAh hly (by first | assumption | omega)) (by first | assumption | with_reducible exact aMt_0 | with_reducible exact aBc_0 | with_reducible exact aWm_0 | with_reducible exact aLd_0 | with_reducible exact aIc_0 | with_reducible exact aBe_0 | with_reducible exact aPr_0 | with_reducible exact aAh_0 | decide | omega) (by first | with_reducible rfl | with_reducible assumption | rfl) (by omega) dX5_load_129 ?_
    refine jr_aload hX dX5_load_130 rfl ?_
    refine jr_getr hX kF_X5_132 rfl (ly_kB hly (by first | assumption | omega) (by first | assumption | omega)) (ly_p0_8 hly (by first | assumption | omega) (by first | assumption | omega)) dX5_load_132 ?_
    refine jr_iload_n hX dX5_load_135 rfl ?_
    refine jr_dup2 hX dX5_load_136 rfl rfl ?_
    refine jr_iald hX (by first | with_reducible assumption | with_reducible exact ly_kWm hly (by first | assumption | omega) | with_reducible exact ly_kLd hly (by first | assumption | omega) | with_reducible exact ly_kIc hly (by first | assumption | omega) | with_reducible exact ly_kBe hly (by first | assumption | omega) | with_reducible exact ly_kPr hly (by first | assumption | omega) | with_reducible exact ly_kMt hly (by first | assumption | omega) (by first | assumption | omega) | with_reducible exact ly_kBc hly (by first | assumption | omega) (by first | assumption | omega) | with_reducible exact ly_kAh hly (by first | assumption | omega)) (by first | with_reducible rfl | with_reducible assumption | rfl) (by omega) dX5_load_137 ?_
    refine jr_iload_n hX dX5_load_138 rfl ?_
    refine jr_iadd hX dX5_load_139 ?_
    refine jr_iast hX (by first | with_reducible assumption | with_reducible exact ly_kWm hly (by first | assumption | omega) | with_reducible exact ly_kLd hly (by first | assumption | omega) | with_reducible exact ly_kIc hly (by first | assumption | omega) | with_reducible exact ly_kBe hly (by first | assumption | omega) | with_reducible exact ly_kPr hly (by first | assumption | omega) | with_reducible exact ly_kMt hly (by first | assumption | omega) (by first | assumption | omega) | with_reducible exact ly_kBc hly (by first | assumption | omega) (by first | assumption | omega) | with_reducible exact ly_kAh hly (by first | assumption | omega)) (by first | assumption | with_reducible exact aMt_0 | with_reducible exact aBc_0 | with_reducible exact aWm_0 | with_reducible exact aLd_0 | with_reducible exact aIc_0 | with_reducible exact aBe_0 | with_reducible exact aPr_0 | with_reducible exact aAh_0 | decide | omega) (by first | with_reducible rfl | with_reducible assumption | rfl) (by omega) dX5_load_140 ?_
    refine jr_aload hX dX5_load_141 rfl ?_
    refine jr_ret (jr_runV hX hSt kM_X5_144 (c_X0_allCargo (jj_fl hX) hly (by omega) (by omega)) rfl rfl (ly_kB hly (by first | assumption | omega) (by first | assumption | omega)) ⟨_, _, rfl, by decide⟩ dX5_load_143 rfl ⟨jj_b1 rfl, jj_b1 rfl⟩ rfl) ?_
    exact jr_iret hX dX5_load_146 rfl rfl ⟨rfl, rfl, rfl, rfl, rfl, rfl⟩
  · refine jr_aload hX dX5_load_78 rfl ?_
    refine jr_getr hX kF_X5_88 rfl (ly_kM hly (by first | assumption | omega) (by first | assumption | omega)) (ly_p2_1 hly (by first | assumption | omega) (by first | assumption | omega)) dX5_load_80 ?_
    refine jr_iload hX dX5_load_83 rfl ?_
    refine jr_iald hX (by first | with_reducible assumption | with_reducible exact ly_kWm hly (by first | assumption | omega) | with_reducible exact ly_kLd hly (by first | assumption | omega) | with_reducible exact ly_kIc hly (by first | assumption | omega) | with_reducible exact ly_kBe hly (by first | assumption | omega) | with_reducible exact ly_kPr hly (by first | assumption | omega) | with_reducible exact ly_kMt hly (by first | assumption | omega) (by first | assumption | omega) | with_reducible exact ly_kBc hly (by first | assumption | omega) (by first | assumption | omega) | with_reducible exact ly_kAh hly (by first | assumption | omega)) (by first | with_reducible rfl | with_reducible assumption | rfl) (by omega) dX5_load_85 ?_
    refine jr_goto (tgt := 96) hX dX5_load_86 (by decide) ?_
    refine jr_iload_n hX dX5_load_96 rfl ?_
    refine jr_mabs (y := 0) hX kM_X5_135 dX5_load_97 rfl ⟨jj_b1 rfl, jj_b1 rfl⟩ ?_
    refine jr_void (jr_runS hX hSt kM_X5_94 (c_needEnough_ok (jj_fl hX) (by rw [if_pos (Int32.not_le.mp c_75)] at h_e; exact h_e)) rfl rfl dX5_load_100 rfl ⟨jj_b1 rfl, jj_b1 rfl⟩ rfl) ?_
    refine jr_aload hX dX5_load_103 rfl ?_
    refine jr_geti hX kF_X5_141 rfl (ly_kB hly (by first | assumption | omega) (by first | assumption | omega)) dX5_load_105 ?_
    refine jr_aload hX dX5_load_108 rfl ?_
    refine jr_ret (jr_runV hX hSt kM_X5_144 (c_X0_allCargo (jj_fl hX) hly (by omega) (by omega)) rfl rfl (ly_kB hly (by first | assumption | omega) (by first | assumption | omega)) ⟨_, _, rfl, by decide⟩ dX5_load_110 rfl ⟨jj_b1 rfl, jj_b1 rfl⟩ rfl) ?_
    refine jr_isub hX dX5_load_113 ?_
    refine jr_iload_n hX dX5_load_114 rfl ?_
    refine jr_void (jr_runS hX hSt kM_X5_94 (c_needEnough_ok (jj_fl hX) h_f) rfl rfl dX5_load_115 rfl ⟨jj_b1 rfl, jj_b1 rfl⟩ rfl) ?_
    refine jr_aload hX dX5_load_118 rfl ?_
    refine jr_getr hX kF_X5_88 rfl (ly_kM hly (by first | assumption | omega) (by first | assumption | omega)) (ly_p2_1 hly (by first | assumption | omega) (by first | assumption | omega)) dX5_load_120 ?_
    refine jr_iload hX dX5_load_123 rfl ?_
    refine jr_dup2 hX dX5_load_125 rfl rfl ?_
    refine jr_iald hX (by first | with_reducible assumption | with_reducible exact ly_kWm hly (by first | assumption | omega) | with_reducible exact ly_kLd hly (by first | assumption | omega) | with_reducible exact ly_kIc hly (by first | assumption | omega) | with_reducible exact ly_kBe hly (by first | assumption | omega) | with_reducible exact ly_kPr hly (by first | assumption | omega) | with_reducible exact ly_kMt hly (by first | assumption | omega) (by first | assumption | omega) | with_reducible exact ly_kBc hly (by first | assumption | omega) (by first | assumption | omega) | with_reducible exact ly_kAh hly (by first | assumption | omega)) (by first | with_reducible rfl | with_reducible assumption | rfl) (by omega) dX5_load_126 ?_
    refine jr_iload_n hX dX5_load_127 rfl ?_
    refine jr_isub hX dX5_load_128 ?_
    refine jr_iast hX (by first | with_reducible assumption | with_reducible exact ly_kWm hly (by first | assumption | omega) | with_reducible exact ly_kLd hly (by first | assumption | omega) | with_reducible exact ly_kIc hly (by first | assumption | omega) | with_reducible exact ly_kBe hly (by first | assumption | omega) | with_reducible exact ly_kPr hly (by first | assumption | omega) | with_reducible exact ly_kMt hly (by first | assumption | omega) (by first | assumption | omega) | with_reducible exact ly_kBc hly (by first | assumption | omega) (by first | assumption | omega) | with_reducible exact ly_kAh hly (by first | assumption | omega)) (by first | assumption | with_reducible exact aMt_0 | with_reducible exact aBc_0 | with_reducible exact aWm_0 | with_reducible exact aLd_0 | with_reducible exact aIc_0 | with_reducible exact aBe_0 | with_reducible exact aPr_0 | with_reducible exact aAh_0 | decide | omega) (by first | with_reducible rfl | with_reducible assumption | rfl) (by omega) dX5_load_129 ?_
    refine jr_aload hX dX5_load_130 rfl ?_
    refine jr_getr hX kF_X5_132 rfl (ly_kB hly (by first | assumption | omega) (by first | assumption | omega)) (ly_p0_8 hly (by first | assumption | omega) (by first | assumption | omega)) dX5_load_132 ?_
    refine jr_iload_n hX dX5_load_135 rfl ?_
    refine jr_dup2 hX dX5_load_136 rfl rfl ?_
    refine jr_iald hX (by first | with_reducible assumption | with_reducible exact ly_kWm hly (by first | assumption | omega) | with_reducible exact ly_kLd hly (by first | assumption | omega) | with_reducible exact ly_kIc hly (by first | assumption | omega) | with_reducible exact ly_kBe hly (by first | assumption | omega) | with_reducible exact ly_kPr hly (by first | assumption | omega) | with_reducible exact ly_kMt hly (by first | assumption | omega) (by first | assumption | omega) | with_reducible exact ly_kBc hly (by first | assumption | omega) (by first | assumption | omega) | with_reducible exact ly_kAh hly (by first | assumption | omega)) (by first | with_reducible rfl | with_reducible assumption | rfl) (by omega) dX5_load_137 ?_
    refine jr_iload_n hX dX5_load_138 rfl ?_
    refine jr_iadd hX dX5_load_139 ?_
    refine jr_iast hX (by first | with_reducible assumption | with_reducible exact ly_kWm hly (by first | assumption | omega) | with_reducible exact ly_kLd hly (by first | assumption | omega) | with_reducible exact ly_kIc hly (by first | assumption | omega) | with_reducible exact ly_kBe hly (by first | assumption | omega) | with_reducible exact ly_kPr hly (by first | assumption | omega) | with_reducible exact ly_kMt hly (by first | assumption | omega) (by first | assumption | omega) | with_reducible exact ly_kBc hly (by first | assumption | omega) (by first | assumption | omega) | with_reducible exact ly_kAh hly (by first | assumption | omega)) (by first | assumption | with_reducible exact aMt_0 | with_reducible exact aBc_0 | with_reducible exact aWm_0 | with_reducible exact aLd_0 | with_reducible exact aIc_0 | with_reducible exact aBe_0 | with_reducible exact aPr_0 | with_reducible exact aAh_0 | decide | omega) (by first | with_reducible rfl | with_reducible assumption | rfl) (by omega) dX5_load_140 ?_
    refine jr_aload hX dX5_load_141 rfl ?_
    refine jr_ret (jr_runV hX hSt kM_X5_144 (c_X0_allCargo (jj_fl hX) hly (by omega) (by omega)) rfl rfl (ly_kB hly (by first | assumption | omega) (by first | assumption | omega)) ⟨_, _, rfl, by decide⟩ dX5_load_143 rfl ⟨jj_b1 rfl, jj_b1 rfl⟩ rfl) ?_
    exact jr_iret hX dX5_load_146 rfl rfl ⟨rfl, rfl, rfl, rfl, rfl, rfl⟩
set_option maxHeartbeats 4000000 in
set_option maxRecDepth 100000 in
theorem c_send_ok {l : Launch} (hfl : l.stackTraces = false) {D : jj_D} {n : Nat} {K : jj_K} {I : jj_I} {P : jj_P} {G : jj_G} (hly : ly K P) {H M B N : Nat} {b : Nat} {h : Nat} (hs : sf 0 H M B N I) (h_b : b < B) (h_h : h < H) (h_s : ¬ I (aB 0 b) 3 = 3) :
    jj_Met l D yX5_send (jj_ws yX5_send cX5_send 4 (some .int)) { frames := 8, cells := 0, slots := 0, locals := 132 } [.ref 1, .int (nI b), .int (nI h)] n K I P G (jj_R (some (.int (jj_u I (aB 0 b) 6 (nI h) (aB 0 b) 7 + f_wd 0 (nv (I (aB 0 b) 4)) h (jj_u I (aB 0 b) 6 (nI h))))) (n) (K) (jj_u I (aB 0 b) 6 (nI h)) (P) (G)) jj_noX := by
  refine jj_of hfl (by decide +kernel) [some (.ref 1), some (.int (nI b)), some (.int (nI h)), none] rfl rfl ?_
  intro X hXl hX hSt
  have hH := hs.1.1
  have hH2 := hs.1.2
  have hM := hs.2.1.1
  have hM2 := hs.2.1.2
  have hB := hs.2.2.1.1
  have hB2 := hs.2.2.1.2
  have hN := hs.2.2.2.1.1
  have hN2 := hs.2.2.2.1.2
  obtain ⟨⟨o, ho, eo⟩, hp, h4, hl, ⟨g0, hg0, eg0⟩⟩ := hs.2.2.2.2.1 b h_b
  have xo : I (aB 0 b) 0 = nI (nv (I (aB 0 b) 0)) := by rw [eo, nv_nI (by omega)]
  have xo2 : nv (I (aB 0 b) 0) < 5 := by rw [eo, nv_nI (by omega)]; exact ho
  obtain ⟨h0, hh0, eh0⟩ := h4 h_s
  have xh : I (aB 0 b) 4 = nI (nv (I (aB 0 b) 4)) := by rw [eh0, nv_nI (by omega)]
  have xh2 : nv (I (aB 0 b) 4) < H := by rw [eh0, nv_nI (by omega)]; exact hh0
  refine jr_aload_n hX dX5_send_0 rfl ?_
  refine jr_iload_n hX dX5_send_1 rfl ?_
  refine jr_void (jr_runV hX hSt kM_X5_112 (c_needBoat_ok (jj_fl hX) hly h_b hB (by omega)) rfl rfl (ly_kI hly) ⟨_, _, rfl, by decide⟩ dX5_send_2 rfl ⟨jj_b1 rfl, jj_b1 rfl⟩ rfl) ?_
  refine jr_aload_n hX dX5_send_5 rfl ?_
  refine jr_iload_n hX dX5_send_6 rfl ?_
  refine jr_void (jr_runV hX hSt kM_X5_54 (c_needHarbour_ok (jj_fl hX) hly h_h hH (by omega)) rfl rfl (ly_kI hly) ⟨_, _, rfl, by decide⟩ dX5_send_7 rfl ⟨jj_b1 rfl, jj_b1 rfl⟩ rfl) ?_
  refine jr_aload_n hX dX5_send_10 rfl ?_
  refine jr_getr hX kF_X5_12 rfl (ly_kI hly) (ly_p5_0 hly) dX5_send_11 ?_
  refine jr_getr hX kF_X5_103 rfl (ly_kW hly (by first | assumption | omega)) (ly_p4_5 hly (by first | assumption | omega)) dX5_send_14 ?_
  refine jr_iload_n hX dX5_send_17 rfl ?_
  refine jr_aBs hX hly (by first | assumption | omega) (by first | with_reducible rfl | with_reducible assumption | rfl) (by first | assumption | omega) dX5_send_18 ?_
  refine jr_astore_n hX dX5_send_19 rfl ?_
  refine jr_aload_n hX dX5_send_20 rfl ?_
  refine jr_geti hX kF_X5_148 rfl (ly_kB hly (by first | assumption | omega) (by first | assumption | omega)) dX5_send_21 ?_
  refine jr_iconst (v := 3) hX dX5_send_24 (by decide) ?_
  refine jr_icmp_ne (tgt := 38) hX dX5_send_25 (by decide) (fun c_25 => ?_) (fun c_25 => absurd c_25 h_s)
  refine jr_aload_n hX dX5_send_38 rfl ?_
  refine jr_iload_n hX dX5_send_39 rfl ?_
  refine jr_puti hX kF_X5_156 rfl (ly_kB hly (by first | assumption | omega) (by first | assumption | omega)) aB_0 dX5_send_40 ?_
  refine jr_aload_n hX dX5_send_43 rfl ?_
  refine jr_geti hX kF_X5_159 rfl (ly_kB hly (by first | assumption | omega) (by first | assumption | omega)) dX5_send_44 ?_
  refine jr_aload_n hX dX5_send_47 rfl ?_
  refine jr_getr hX kF_X5_20 rfl (ly_kI hly) (ly_p5_1 hly) dX5_send_48 ?_
  refine jr_aload_n hX dX5_send_51 rfl ?_
  refine jr_geti hX kF_X5_129 rfl (ly_kB hly (by first | assumption | omega) (by first | assumption | omega)) dX5_send_52 ?_
  refine jr_iload_n hX dX5_send_55 rfl ?_
  rw [show jj_u I (aB 0 b) 6 (nI h) (aB 0 b) 4 = nI (nv (I (aB 0 b) 4)) from (jj_u_nk (by decide)).trans xh]
  refine jr_ret (jr_runV hX hSt kM_X5_162 (c_X3_wayDays (jj_fl hX) hly (by omega) (by omega) (by omega)) rfl rfl (ly_kR hly (by first | assumption | omega)) ⟨_, _, rfl, by decide⟩ dX5_send_56 rfl ⟨jj_b1 rfl, jj_b1 rfl⟩ rfl) ?_
  refine jr_iadd hX dX5_send_59 ?_
  exact jr_iret hX dX5_send_60 rfl rfl ⟨rfl, rfl, rfl, rfl, rfl, rfl⟩
set_option maxHeartbeats 4000000 in
set_option maxRecDepth 100000 in
theorem c_berth_ok {l : Launch} (hfl : l.stackTraces = false) {D : jj_D} {n : Nat} {K : jj_K} {I : jj_I} {P : jj_P} {G : jj_G} (hly : ly K P) {H M B N : Nat} {b : Nat} {z : Int32} (hs : sf 0 H M B N I) (h_b : b < B) (h_i : I (aB 0 b) 3 = 0 ∨ I (aB 0 b) 3 = 1) (h_f : ¬ z = 0 → ¬ I (aB 0 b) 3 = 1 → 1 ≤ I (aBe 0) (nv (I (aB 0 b) 4)) - sm (q_bl 0 (I (aB 0 b) 4) 1 I) B) :
    jj_Met l D yX5_berth (jj_ws yX5_berth cX5_berth 4 (some .int)) { frames := 8, cells := 0, slots := 0, locals := 132 } [.ref 1, .int (nI b), .int z] n K I P G (jj_R (some (.int (f_berth b z I (aBe 0) (nv (I (aB 0 b) 4)) - sm (q_bl 0 (f_berth b z I (aB 0 b) 4) 1 (f_berth b z I)) B))) (n) (K) (f_berth b z I) (P) (G)) jj_noX := by
  refine jj_of hfl (by decide +kernel) [some (.ref 1), some (.int (nI b)), some (.int z), none] rfl rfl ?_
  intro X hXl hX hSt
  have hH := hs.1.1
  have hH2 := hs.1.2
  have hM := hs.2.1.1
  have hM2 := hs.2.1.2
  have hB := hs.2.2.1.1
  have hB2 := hs.2.2.1.2
  have hN := hs.2.2.2.1.1
  have hN2 := hs.2.2.2.1.2
  obtain ⟨⟨o, ho, eo⟩, hp, h4, hl, ⟨g0, hg0, eg0⟩⟩ := hs.2.2.2.2.1 b h_b
  have xo : I (aB 0 b) 0 = nI (nv (I (aB 0 b) 0)) := by rw [eo, nv_nI (by omega)]
  have xo2 : nv (I (aB 0 b) 0) < 5 := by rw [eo, nv_nI (by omega)]; exact ho
  obtain ⟨h0, hh0, eh0⟩ := h4 (by rcases h_i with e | e <;> rw [e] <;> decide)
  have xh : I (aB 0 b) 4 = nI (nv (I (aB 0 b) 4)) := by rw [eh0, nv_nI (by omega)]
  have xh2 : nv (I (aB 0 b) 4) < H := by rw [eh0, nv_nI (by omega)]; exact hh0
  refine jr_aload_n hX dX5_berth_0 rfl ?_
  refine jr_iload_n hX dX5_berth_1 rfl ?_
  refine jr_void (jr_runV hX hSt kM_X5_112 (c_needBoat_ok (jj_fl hX) hly h_b hB (by omega)) rfl rfl (ly_kI hly) ⟨_, _, rfl, by decide⟩ dX5_berth_2 rfl ⟨jj_b1 rfl, jj_b1 rfl⟩ rfl) ?_
  refine jr_aload_n hX dX5_berth_5 rfl ?_
  refine jr_getr hX kF_X5_12 rfl (ly_kI hly) (ly_p5_0 hly) dX5_berth_6 ?_
  refine jr_getr hX kF_X5_103 rfl (ly_kW hly (by first | assumption | omega)) (ly_p4_5 hly (by first | assumption | omega)) dX5_berth_9 ?_
  refine jr_iload_n hX dX5_berth_12 rfl ?_
  refine jr_aBs hX hly (by first | assumption | omega) (by first | with_reducible rfl | with_reducible assumption | rfl) (by first | assumption | omega) dX5_berth_13 ?_
  refine jr_astore_n hX dX5_berth_14 rfl ?_
  refine jr_aload_n hX dX5_berth_15 rfl ?_
  refine jr_void (jr_runS hX hSt kM_X5_122 (c_needInHarbour_ok (jj_fl hX) hly (by omega) h_i) rfl rfl dX5_berth_16 rfl ⟨jj_b1 rfl, jj_b1 rfl⟩ rfl) ?_
  refine jr_iload_n hX dX5_berth_19 rfl ?_
  refine jr_if_eq (tgt := 46) hX dX5_berth_20 (by decide) (fun c_20 => ?_) (fun c_20 => ?_)
  · refine jr_aload_n hX dX5_berth_46 rfl ?_
    refine jr_iload_n hX dX5_berth_47 rfl ?_
    refine jr_if_eq (tgt := 55) hX dX5_berth_48 (by decide) (fun c_48 => ?_) (fun c_48 => absurd c_20 c_48)
    refine jr_iconst (v := 0) hX dX5_berth_55 (by decide) ?_
    refine jr_puti hX kF_X5_148 rfl (ly_kB hly (by first | assumption | omega) (by first | assumption | omega)) aB_0 dX5_berth_56 ?_
    refine jr_aload_n hX dX5_berth_59 rfl ?_
    refine jr_getr hX kF_X5_12 rfl (ly_kI hly) (ly_p5_0 hly) dX5_berth_60 ?_
    refine jr_aload_n hX dX5_berth_63 rfl ?_
    refine jr_geti hX kF_X5_129 rfl (ly_kB hly (by first | assumption | omega) (by first | assumption | omega)) dX5_berth_64 ?_
    skip
    refine jr_ret (jr_runV hX hSt kM_X5_165 (c_X4_freeBerths (jj_fl hX) hly (by omega) ((congrFun (jj_u_ne (by simp only [aW, aB]; omega)) 2).trans hB) hB2 (h := nv (I (aB 0 b) 4)) ((jj_u_nk (by decide)).trans xh) (by omega)) rfl rfl (ly_kW hly (by first | assumption | omega)) ⟨_, _, rfl, by decide⟩ dX5_berth_67 rfl ⟨jj_b1 rfl, jj_b1 rfl⟩ rfl) ?_
    refine jr_iret hX dX5_berth_70 rfl rfl ?_
    (have e9 : f_berth b z I = jj_u I (aB 0 b) 3 0 := by unfold f_berth; rw [if_pos c_20])
    rw [e9]
    exact ⟨rfl, rfl, rfl, rfl, rfl, rfl⟩
  · refine jr_aload_n hX dX5_berth_23 rfl ?_
    refine jr_geti hX kF_X5_148 rfl (ly_kB hly (by first | assumption | omega) (by first | assumption | omega)) dX5_berth_24 ?_
    refine jr_iconst (v := 1) hX dX5_berth_27 (by decide) ?_
    refine jr_icmp_eq (tgt := 46) hX dX5_berth_28 (by decide) (fun c_28 => ?_) (fun c_28 => ?_)
    · refine jr_aload_n hX dX5_berth_46 rfl ?_
      refine jr_iload_n hX dX5_berth_47 rfl ?_
      refine jr_if_eq (tgt := 55) hX dX5_berth_48 (by decide) (fun c_48 => absurd c_48 c_20) (fun c_48 => ?_)
      refine jr_iconst (v := 1) hX dX5_berth_51 (by decide) ?_
      refine jr_goto (tgt := 56) hX dX5_berth_52 (by decide) ?_
      refine jr_puti hX kF_X5_148 rfl (ly_kB hly (by first | assumption | omega) (by first | assumption | omega)) aB_0 dX5_berth_56 ?_
      refine jr_aload_n hX dX5_berth_59 rfl ?_
      refine jr_getr hX kF_X5_12 rfl (ly_kI hly) (ly_p5_0 hly) dX5_berth_60 ?_
      refine jr_aload_n hX dX5_berth_63 rfl ?_
      refine jr_geti hX kF_X5_129 rfl (ly_kB hly (by first | assumption | omega) (by first | assumption | omega)) dX5_berth_64 ?_
      skip
      refine jr_ret (jr_runV hX hSt kM_X5_165 (c_X4_freeBerths (jj_fl hX) hly (by omega) ((congrFun (jj_u_ne (by simp only [aW, aB]; omega)) 2).trans hB) hB2 (h := nv (I (aB 0 b) 4)) ((jj_u_nk (by decide)).trans xh) (by omega)) rfl rfl (ly_kW hly (by first | assumption | omega)) ⟨_, _, rfl, by decide⟩ dX5_berth_67 rfl ⟨jj_b1 rfl, jj_b1 rfl⟩ rfl) ?_
      refine jr_iret hX dX5_berth_70 rfl rfl ?_
      (have e9 : f_berth b z I = jj_u I (aB 0 b) 3 1 := by unfold f_berth; rw [if_neg c_20])
      rw [e9]
      exact ⟨rfl, rfl, rfl, rfl, rfl, rfl⟩
    · refine jr_aload_n hX dX5_berth_31 rfl ?_
      refine jr_getr hX kF_X5_12 rfl (ly_kI hly) (ly_p5_0 hly) dX5_berth_32 ?_
      refine jr_aload_n hX dX5_berth_35 rfl ?_
      refine jr_geti hX kF_X5_129 rfl (ly_kB hly (by first | assumption | omega) (by first | assumption | omega)) dX5_berth_36 ?_
      refine jr_ret (jr_runV hX hSt kM_X5_165 (c_X4_freeBerths (jj_fl hX) hly (by omega) hB hB2 (h := nv (I (aB 0 b) 4)) xh (by omega)) rfl rfl (ly_kW hly (by first | assumption | omega)) ⟨_, _, rfl, by decide⟩ dX5_berth_39 rfl ⟨jj_b1 rfl, jj_b1 rfl⟩ rfl) ?_
      refine jr_iconst (v := 1) hX dX5_berth_42 (by decide) ?_
      refine jr_void (jr_runS hX hSt kM_X5_94 (c_needEnough_ok (jj_fl hX) (h_f c_20 c_28)) rfl rfl dX5_berth_43 rfl ⟨jj_b1 rfl, jj_b1 rfl⟩ rfl) ?_
      refine jr_aload_n hX dX5_berth_46 rfl ?_
      refine jr_iload_n hX dX5_berth_47 rfl ?_
      refine jr_if_eq (tgt := 55) hX dX5_berth_48 (by decide) (fun c_48 => absurd c_48 c_20) (fun c_48 => ?_)
      refine jr_iconst (v := 1) hX dX5_berth_51 (by decide) ?_
      refine jr_goto (tgt := 56) hX dX5_berth_52 (by decide) ?_
      refine jr_puti hX kF_X5_148 rfl (ly_kB hly (by first | assumption | omega) (by first | assumption | omega)) aB_0 dX5_berth_56 ?_
      refine jr_aload_n hX dX5_berth_59 rfl ?_
      refine jr_getr hX kF_X5_12 rfl (ly_kI hly) (ly_p5_0 hly) dX5_berth_60 ?_
      refine jr_aload_n hX dX5_berth_63 rfl ?_
      refine jr_geti hX kF_X5_129 rfl (ly_kB hly (by first | assumption | omega) (by first | assumption | omega)) dX5_berth_64 ?_
      skip
      refine jr_ret (jr_runV hX hSt kM_X5_165 (c_X4_freeBerths (jj_fl hX) hly (by omega) ((congrFun (jj_u_ne (by simp only [aW, aB]; omega)) 2).trans hB) hB2 (h := nv (I (aB 0 b) 4)) ((jj_u_nk (by decide)).trans xh) (by omega)) rfl rfl (ly_kW hly (by first | assumption | omega)) ⟨_, _, rfl, by decide⟩ dX5_berth_67 rfl ⟨jj_b1 rfl, jj_b1 rfl⟩ rfl) ?_
      refine jr_iret hX dX5_berth_70 rfl rfl ?_
      (have e9 : f_berth b z I = jj_u I (aB 0 b) 3 1 := by unfold f_berth; rw [if_neg c_20])
      rw [e9]
      exact ⟨rfl, rfl, rfl, rfl, rfl, rfl⟩
set_option maxHeartbeats 4000000 in
set_option maxRecDepth 100000 in
theorem c_mend_ok {l : Launch} (hfl : l.stackTraces = false) {D : jj_D} {n : Nat} {K : jj_K} {I : jj_I} {P : jj_P} {G : jj_G} (hly : ly K P) {H M B N : Nat} {b : Nat} (hs : sf 0 H M B N I) (h_b : b < B) (h_i : I (aB 0 b) 3 = 0 ∨ I (aB 0 b) 3 = 1) :
    jj_Met l D yX5_mend (jj_ws yX5_mend cX5_mend 5 (some .int)) { frames := 8, cells := 0, slots := 0, locals := 132 } [.ref 1, .int (nI b)] n K I P G (jj_R (some (.int (f_mend b I (aB 0 b) 1))) (n) (K) (f_mend b I) (P) (G)) jj_noX := by
  refine jj_of hfl (by decide +kernel) [some (.ref 1), some (.int (nI b)), none, none, none] rfl rfl ?_
  intro X hXl hX hSt
  have hH := hs.1.1
  have hH2 := hs.1.2
  have hM := hs.2.1.1
  have hM2 := hs.2.1.2
  have hB := hs.2.2.1.1
  have hB2 := hs.2.2.1.2
  have hN := hs.2.2.2.1.1
  have hN2 := hs.2.2.2.1.2
  obtain ⟨⟨o, ho, eo⟩, hp, h4, hl, ⟨g0, hg0, eg0⟩⟩ := hs.2.2.2.2.1 b h_b
  have xo : I (aB 0 b) 0 = nI (nv (I (aB 0 b) 0)) := by rw [eo, nv_nI (by omega)]
  have xo2 : nv (I (aB 0 b) 0) < 5 := by rw [eo, nv_nI (by omega)]; exact ho
  obtain ⟨h0, hh0, eh0⟩ := h4 (by rcases h_i with e | e <;> rw [e] <;> decide)
  have xh : I (aB 0 b) 4 = nI (nv (I (aB 0 b) 4)) := by rw [eh0, nv_nI (by omega)]
  have xh2 : nv (I (aB 0 b) 4) < H := by rw [eh0, nv_nI (by omega)]; exact hh0
  refine jr_aload_n hX dX5_mend_0 rfl ?_
  refine jr_iload_n hX dX5_mend_1 rfl ?_
  refine jr_void (jr_runV hX hSt kM_X5_112 (c_needBoat_ok (jj_fl hX) hly h_b hB (by omega)) rfl rfl (ly_kI hly) ⟨_, _, rfl, by decide⟩ dX5_mend_2 rfl ⟨jj_b1 rfl, jj_b1 rfl⟩ rfl) ?_
  refine jr_aload_n hX dX5_mend_5 rfl ?_
  refine jr_getr hX kF_X5_12 rfl (ly_kI hly) (ly_p5_0 hly) dX5_mend_6 ?_
  refine jr_getr hX kF_X5_103 rfl (ly_kW hly (by first | assumption | omega)) (ly_p4_5 hly (by first | assumption | omega)) dX5_mend_9 ?_
  refine jr_iload_n hX dX5_mend_12 rfl ?_
  refine jr_aBs hX hly (by first | assumption | omega) (by first | with_reducible rfl | with_reducible assumption | rfl) (by first | assumption | omega) dX5_mend_13 ?_
  refine jr_astore_n hX dX5_mend_14 rfl ?_
  refine jr_aload_n hX dX5_mend_15 rfl ?_
  refine jr_void (jr_runS hX hSt kM_X5_122 (c_needInHarbour_ok (jj_fl hX) hly (by omega) h_i) rfl rfl dX5_mend_16 rfl ⟨jj_b1 rfl, jj_b1 rfl⟩ rfl) ?_
  refine jr_aload_n hX dX5_mend_19 rfl ?_
  refine jr_getr hX kF_X5_12 rfl (ly_kI hly) (ly_p5_0 hly) dX5_mend_20 ?_
  refine jr_getr hX kF_X5_76 rfl (ly_kW hly (by first | assumption | omega)) (ly_p4_4 hly (by first | assumption | omega)) dX5_mend_23 ?_
  refine jr_aload_n hX dX5_mend_26 rfl ?_
  refine jr_geti hX kF_X5_126 rfl (ly_kB hly (by first | assumption | omega) (by first | assumption | omega)) dX5_mend_27 ?_
  refine jr_aMs hX hly (by first | assumption | omega) (by first | with_reducible rfl | with_reducible assumption | rfl) (by first | assumption | omega) dX5_mend_30 ?_
  refine jr_astore_n hX dX5_mend_31 rfl ?_
  refine jr_bipush (v := 20) hX dX5_mend_32 (by decide) ?_
  refine jr_aload_n hX dX5_mend_34 rfl ?_
  refine jr_geti hX kF_X5_168 rfl (ly_kB hly (by first | assumption | omega) (by first | assumption | omega)) dX5_mend_35 ?_
  refine jr_isub hX dX5_mend_38 ?_
  refine jr_aload_n hX dX5_mend_39 rfl ?_
  refine jr_geti hX kF_X5_80 rfl (ly_kM hly (by first | assumption | omega) (by first | assumption | omega)) dX5_mend_40 ?_
  refine jr_iconst (v := 3) hX dX5_mend_43 (by decide) ?_
  refine jr_idiv hX dX5_mend_44 (by decide) ?_
  refine jr_mmin hX kM_X5_171 dX5_mend_45 rfl ⟨jj_b1 rfl, jj_b1 rfl⟩ ?_
  refine jr_istore hX dX5_mend_48 rfl ?_
  refine jr_aload_n hX dX5_mend_50 rfl ?_
  refine jr_dup hX dX5_mend_51 rfl ?_
  refine jr_geti hX kF_X5_80 rfl (ly_kM hly (by first | assumption | omega) (by first | assumption | omega)) dX5_mend_52 ?_
  refine jr_iload hX dX5_mend_55 rfl ?_
  refine jr_iconst (v := 3) hX dX5_mend_57 (by decide) ?_
  refine jr_imul hX dX5_mend_58 ?_
  refine jr_isub hX dX5_mend_59 ?_
  refine jr_puti hX kF_X5_80 rfl (ly_kM hly (by first | assumption | omega) (by first | assumption | omega)) aM_0 dX5_mend_60 ?_
  refine jr_aload_n hX dX5_mend_63 rfl ?_
  refine jr_dup hX dX5_mend_64 rfl ?_
  refine jr_geti hX kF_X5_168 rfl (ly_kB hly (by first | assumption | omega) (by first | assumption | omega)) dX5_mend_65 ?_
  refine jr_iload hX dX5_mend_68 rfl ?_
  refine jr_iadd hX dX5_mend_70 ?_
  refine jr_puti hX kF_X5_168 rfl (ly_kB hly (by first | assumption | omega) (by first | assumption | omega)) aB_0 dX5_mend_71 ?_
  refine jr_aload_n hX dX5_mend_74 rfl ?_
  refine jr_geti hX kF_X5_168 rfl (ly_kB hly (by first | assumption | omega) (by first | assumption | omega)) dX5_mend_75 ?_
  exact jr_iret hX dX5_mend_78 rfl rfl ⟨rfl, rfl, rfl, rfl, rfl, rfl⟩
set_option maxHeartbeats 4000000 in
set_option maxRecDepth 100000 in
theorem c_boat_ok {l : Launch} (hfl : l.stackTraces = false) {D : jj_D} {n : Nat} {K : jj_K} {I : jj_I} {P : jj_P} {G : jj_G} (hly : ly K P) {H M B N : Nat} {b : Nat} {t : Nat} (hs : sf 0 H M B N I) (h_b : b < B) (h_t : t < 12) :
    jj_Met l D yX5_boat (jj_ws yX5_boat cX5_boat 3 (some .int)) { frames := 8, cells := 0, slots := 0, locals := 132 } [.ref 1, .int (nI b), .int (nI t)] n K I P G (jj_R (some (.int (q_bf b I t))) (n) (K) (I) (P) (G)) jj_noX := by
  refine jj_of hfl (by decide +kernel) [some (.ref 1), some (.int (nI b)), some (.int (nI t))] rfl rfl ?_
  intro X hXl hX hSt
  have hH := hs.1.1
  have hH2 := hs.1.2
  have hM := hs.2.1.1
  have hM2 := hs.2.1.2
  have hB := hs.2.2.1.1
  have hB2 := hs.2.2.1.2
  have hN := hs.2.2.2.1.1
  have hN2 := hs.2.2.2.1.2
  refine jr_aload_n hX dX5_boat_0 rfl ?_
  refine jr_iload_n hX dX5_boat_1 rfl ?_
  refine jr_void (jr_runV hX hSt kM_X5_112 (c_needBoat_ok (jj_fl hX) hly h_b hB (by omega)) rfl rfl (ly_kI hly) ⟨_, _, rfl, by decide⟩ dX5_boat_2 rfl ⟨jj_b1 rfl, jj_b1 rfl⟩ rfl) ?_
  refine jr_iload_n hX dX5_boat_5 rfl ?_
  refine jr_bipush (v := 12) hX dX5_boat_6 (by decide) ?_
  refine jr_void (jr_runS hX hSt kM_X5_29 (c_needIndex_ok (jj_fl hX) (a := t) (c := 12) h_t (by omega)) rfl rfl dX5_boat_8 rfl ⟨jj_b1 rfl, jj_b1 rfl⟩ rfl) ?_
  refine jr_aload_n hX dX5_boat_11 rfl ?_
  refine jr_getr hX kF_X5_12 rfl (ly_kI hly) (ly_p5_0 hly) dX5_boat_12 ?_
  refine jr_getr hX kF_X5_103 rfl (ly_kW hly (by first | assumption | omega)) (ly_p4_5 hly (by first | assumption | omega)) dX5_boat_15 ?_
  refine jr_iload_n hX dX5_boat_18 rfl ?_
  refine jr_aBs hX hly (by first | assumption | omega) (by first | with_reducible rfl | with_reducible assumption | rfl) (by first | assumption | omega) dX5_boat_19 ?_
  refine jr_iload_n hX dX5_boat_20 rfl ?_
  refine jr_ret (jr_runS hX hSt kM_X5_174 (c_boatFact (jj_fl hX) hly (by omega) h_t) rfl rfl dX5_boat_21 rfl ⟨jj_b1 rfl, jj_b1 rfl⟩ rfl) ?_
  exact jr_iret hX dX5_boat_24 rfl rfl ⟨rfl, rfl, rfl, rfl, rfl, rfl⟩
set_option maxHeartbeats 4000000 in
set_option maxRecDepth 100000 in
theorem c_lend_ok {l : Launch} (hfl : l.stackTraces = false) {D : jj_D} {n : Nat} {K : jj_K} {I : jj_I} {P : jj_P} {G : jj_G} (hly : ly K P) {H M B N : Nat} {a : Nat} {b : Nat} {h : Nat} {g : Nat} {y : Int32} {t : Int32} (hs : sf 0 H M B N I) (h_a : a < M) (h_b : b < M) (h_h : h < H) (h_g : g < 4) (h_ab : ¬ a = b) (h_y : 1 ≤ y) (h_t : I (aR 0) 0 ≤ t) (h_r : N < 30) (h_e : y ≤ I (aMt 0 a) (h * 4 + g)) :
    jj_Met l D yX5_lend (jj_ws yX5_lend cX5_lend 8 (some .int)) { frames := 8, cells := 0, slots := 0, locals := 132 } [.ref 1, .int (nI a), .int (nI b), .int (nI h), .int (nI g), .int y, .int t] n K I P G (jj_R (some (.int (nI N))) (n) (K) (f_lend a b h g N y t I) (P) (G)) jj_noX := by
  refine jj_of hfl (by decide +kernel) [some (.ref 1), some (.int (nI a)), some (.int (nI b)), some (.int (nI h)), some (.int (nI g)), some (.int y), some (.int t), none] rfl rfl ?_
  intro X hXl hX hSt
  have hH := hs.1.1
  have hH2 := hs.1.2
  have hM := hs.2.1.1
  have hM2 := hs.2.1.2
  have hB := hs.2.2.1.1
  have hB2 := hs.2.2.1.2
  have hN := hs.2.2.2.1.1
  have hN2 := hs.2.2.2.1.2
  refine jr_aload_n hX dX5_lend_0 rfl ?_
  refine jr_iload_n hX dX5_lend_1 rfl ?_
  refine jr_void (jr_runV hX hSt kM_X5_85 (c_needMerchant_ok (jj_fl hX) hly h_a hM (by omega)) rfl rfl (ly_kI hly) ⟨_, _, rfl, by decide⟩ dX5_lend_2 rfl ⟨jj_b1 rfl, jj_b1 rfl⟩ rfl) ?_
  refine jr_aload_n hX dX5_lend_5 rfl ?_
  refine jr_iload_n hX dX5_lend_6 rfl ?_
  refine jr_void (jr_runV hX hSt kM_X5_85 (c_needMerchant_ok (jj_fl hX) hly h_b hM (by omega)) rfl rfl (ly_kI hly) ⟨_, _, rfl, by decide⟩ dX5_lend_7 rfl ⟨jj_b1 rfl, jj_b1 rfl⟩ rfl) ?_
  refine jr_aload_n hX dX5_lend_10 rfl ?_
  refine jr_iload_n hX dX5_lend_11 rfl ?_
  refine jr_void (jr_runV hX hSt kM_X5_54 (c_needHarbour_ok (jj_fl hX) hly h_h hH (by omega)) rfl rfl (ly_kI hly) ⟨_, _, rfl, by decide⟩ dX5_lend_12 rfl ⟨jj_b1 rfl, jj_b1 rfl⟩ rfl) ?_
  refine jr_iload hX dX5_lend_15 rfl ?_
  refine jr_iconst (v := 4) hX dX5_lend_17 (by decide) ?_
  refine jr_void (jr_runS hX hSt kM_X5_29 (c_needIndex_ok (jj_fl hX) (a := g) (c := 4) h_g (by omega)) rfl rfl dX5_lend_18 rfl ⟨jj_b1 rfl, jj_b1 rfl⟩ rfl) ?_
  refine jr_iload_n hX dX5_lend_21 rfl ?_
  refine jr_iload_n hX dX5_lend_22 rfl ?_
  refine jr_icmp_ne (tgt := 36) hX dX5_lend_23 (by decide) (fun c_23 => ?_) (fun c_23 => absurd ((nI_eq (by omega) (by omega)).mp c_23) h_ab)
  refine jr_iload hX dX5_lend_36 rfl ?_
  refine jr_iconst (v := 1) hX dX5_lend_38 (by decide) ?_
  refine jr_void (jr_runS hX hSt kM_X5_91 (c_needAtLeast_ok (jj_fl hX) h_y) rfl rfl dX5_lend_39 rfl ⟨jj_b1 rfl, jj_b1 rfl⟩ rfl) ?_
  refine jr_iload hX dX5_lend_42 rfl ?_
  refine jr_aload_n hX dX5_lend_44 rfl ?_
  refine jr_getr hX kF_X5_20 rfl (ly_kI hly) (ly_p5_1 hly) dX5_lend_45 ?_
  refine jr_geti hX kF_X5_180 rfl (ly_kR hly (by first | assumption | omega)) dX5_lend_48 ?_
  refine jr_void (jr_runS hX hSt kM_X5_91 (c_needAtLeast_ok (jj_fl hX) h_t) rfl rfl dX5_lend_51 rfl ⟨jj_b1 rfl, jj_b1 rfl⟩ rfl) ?_
  refine jr_aload_n hX dX5_lend_54 rfl ?_
  refine jr_getr hX kF_X5_12 rfl (ly_kI hly) (ly_p5_0 hly) dX5_lend_55 ?_
  refine jr_geti hX kF_X5_183 rfl (ly_kW hly (by first | assumption | omega)) dX5_lend_58 ?_
  refine jr_bipush (v := 30) hX dX5_lend_61 (by decide) ?_
  refine jr_void (jr_runS hX hSt kM_X5_47 (c_needRoom_ok (jj_fl hX) (show _ < nI 30 from by rw [hN]; exact nI_lt h_r (by omega))) rfl rfl dX5_lend_63 rfl ⟨jj_b1 rfl, jj_b1 rfl⟩ rfl) ?_
  refine jr_aload_n hX dX5_lend_66 rfl ?_
  refine jr_getr hX kF_X5_12 rfl (ly_kI hly) (ly_p5_0 hly) dX5_lend_67 ?_
  refine jr_getr hX kF_X5_76 rfl (ly_kW hly (by first | assumption | omega)) (ly_p4_4 hly (by first | assumption | omega)) dX5_lend_70 ?_
  refine jr_iload_n hX dX5_lend_73 rfl ?_
  refine jr_aMs hX hly (by first | assumption | omega) (by first | with_reducible rfl | with_reducible assumption | rfl) (by first | assumption | omega) dX5_lend_74 ?_
  refine jr_getr hX kF_X5_88 rfl (ly_kM hly (by first | assumption | omega) (by first | assumption | omega)) (ly_p2_1 hly (by first | assumption | omega) (by first | assumption | omega)) dX5_lend_75 ?_
  refine jr_iload_n hX dX5_lend_78 rfl ?_
  refine jr_iload hX dX5_lend_79 rfl ?_
  refine jr_ret (jr_runS hX hSt kM_X5_61 (c_X5_cellOf (jj_fl hX) (h := h) (g := g)) rfl rfl dX5_lend_81 rfl ⟨jj_b1 rfl, jj_b1 rfl⟩ rfl) ?_
  refine jr_iald hX (by first | with_reducible assumption | with_reducible exact ly_kWm hly (by first | assumption | omega) | with_reducible exact ly_kLd hly (by first | assumption | omega) | with_reducible exact ly_kIc hly (by first | assumption | omega) | with_reducible exact ly_kBe hly (by first | assumption | omega) | with_reducible exact ly_kPr hly (by first | assumption | omega) | with_reducible exact ly_kMt hly (by first | assumption | omega) (by first | assumption | omega) | with_reducible exact ly_kBc hly (by first | assumption | omega) (by first | assumption | omega) | with_reducible exact ly_kAh hly (by first | assumption | omega)) (by first | with_reducible rfl | with_reducible assumption | rfl) (by omega) dX5_lend_84 ?_
  refine jr_iload hX dX5_lend_85 rfl ?_
  refine jr_void (jr_runS hX hSt kM_X5_94 (c_needEnough_ok (jj_fl hX) h_e) rfl rfl dX5_lend_87 rfl ⟨jj_b1 rfl, jj_b1 rfl⟩ rfl) ?_
  refine jr_aload_n hX dX5_lend_90 rfl ?_
  refine jr_getr hX kF_X5_12 rfl (ly_kI hly) (ly_p5_0 hly) dX5_lend_91 ?_
  refine jr_iload_n hX dX5_lend_94 rfl ?_
  refine jr_iload_n hX dX5_lend_95 rfl ?_
  refine jr_iload_n hX dX5_lend_96 rfl ?_
  refine jr_iload hX dX5_lend_97 rfl ?_
  refine jr_ret (jr_runS hX hSt kM_X5_61 (c_X5_cellOf (jj_fl hX) (h := h) (g := g)) rfl rfl dX5_lend_99 rfl ⟨jj_b1 rfl, jj_b1 rfl⟩ rfl) ?_
  refine jr_iload hX dX5_lend_102 rfl ?_
  refine jr_void (jr_runV hX hSt kM_X5_186 (c_X4_hand (jj_fl hX) hly (by omega) rfl rfl rfl (by omega) (by omega) (by omega)) rfl rfl (ly_kW hly (by first | assumption | omega)) ⟨_, _, rfl, by decide⟩ dX5_lend_104 rfl ⟨jj_b1 rfl, jj_b1 rfl⟩ rfl) ?_
  refine jr_aload_n hX dX5_lend_107 rfl ?_
  refine jr_getr hX kF_X5_12 rfl (ly_kI hly) (ly_p5_0 hly) dX5_lend_108 ?_
  refine jr_geti hX kF_X5_183 rfl (ly_kW hly (by first | assumption | omega)) dX5_lend_111 ?_
  rw [show f_hd 0 a b (h * 4 + g) y I (aW 0) 3 = nI N from by unfold f_hd; rw [jj_u_ne (by simp only [aW, aMt]; omega), jj_u_ne (by simp only [aW, aMt]; omega)]; exact hN]
  refine jr_istore hX dX5_lend_114 rfl ?_
  refine jr_aload_n hX dX5_lend_116 rfl ?_
  refine jr_getr hX kF_X5_12 rfl (ly_kI hly) (ly_p5_0 hly) dX5_lend_117 ?_
  refine jr_getr hX kF_X5_190 rfl (ly_kW hly (by first | assumption | omega)) (ly_p4_6 hly (by first | assumption | omega)) dX5_lend_120 ?_
  refine jr_iload hX dX5_lend_123 rfl ?_
  refine jr_aDs hX hly (by first | assumption | omega) (by first | with_reducible rfl | with_reducible assumption | rfl) (by first | assumption | omega) dX5_lend_125 ?_
  refine jr_iload_n hX dX5_lend_126 rfl ?_
  refine jr_iload_n hX dX5_lend_127 rfl ?_
  refine jr_iload_n hX dX5_lend_128 rfl ?_
  refine jr_iload hX dX5_lend_129 rfl ?_
  refine jr_iload hX dX5_lend_131 rfl ?_
  refine jr_iload hX dX5_lend_133 rfl ?_
  refine jr_bipush (v := 10) hX dX5_lend_135 (by decide) ?_
  refine jr_idiv hX dX5_lend_137 (by decide) ?_
  refine jr_iadd hX dX5_lend_138 ?_
  refine jr_iload hX dX5_lend_139 rfl ?_
  refine jr_void (jr_runV hX hSt kM_X5_194 (c_X1_open (jj_fl hX) hly (by omega) (by omega)) rfl rfl (ly_kD hly (by first | assumption | omega) (by first | assumption | omega)) ⟨_, _, rfl, by decide⟩ dX5_lend_141 rfl ⟨jj_b1 rfl, jj_b1 rfl⟩ rfl) ?_
  refine jr_aload_n hX dX5_lend_144 rfl ?_
  refine jr_getr hX kF_X5_12 rfl (ly_kI hly) (ly_p5_0 hly) dX5_lend_145 ?_
  refine jr_iload hX dX5_lend_148 rfl ?_
  refine jr_iconst (v := 1) hX dX5_lend_150 (by decide) ?_
  refine jr_iadd hX dX5_lend_151 ?_
  rw [nI_1]
  refine jr_puti hX kF_X5_183 rfl (ly_kW hly (by first | assumption | omega)) aW_0 dX5_lend_152 ?_
  refine jr_iload hX dX5_lend_155 rfl ?_
  exact jr_iret hX dX5_lend_157 rfl rfl ⟨rfl, rfl, rfl, rfl, rfl, rfl⟩
set_option maxHeartbeats 4000000 in
set_option maxRecDepth 100000 in
theorem c_repay_ok {l : Launch} (hfl : l.stackTraces = false) {D : jj_D} {n : Nat} {K : jj_K} {I : jj_I} {P : jj_P} {G : jj_G} (hly : ly K P) {H M B N : Nat} {k : Nat} {h : Nat} (hs : sf 0 H M B N I) (h_k : k < N) (h_h : h < H) (h_s : I (aD 0 k) 6 = 0) (h_e : I (aD 0 k) 4 ≤ I (aMt 0 (nv (I (aD 0 k) 1))) (h * 4 + nv (I (aD 0 k) 3))) :
    jj_Met l D yX5_repay (jj_ws yX5_repay cX5_repay 5 (some .int)) { frames := 8, cells := 0, slots := 0, locals := 132 } [.ref 1, .int (nI k), .int (nI h)] n K I P G (jj_R (some (.int (f_repay k h I (aD 0 k) 4))) (n) (K) (f_repay k h I) (P) (G)) jj_noX := by
  refine jj_of hfl (by decide +kernel) [some (.ref 1), some (.int (nI k)), some (.int (nI h)), none, none] rfl rfl ?_
  intro X hXl hX hSt
  have hH := hs.1.1
  have hH2 := hs.1.2
  have hM := hs.2.1.1
  have hM2 := hs.2.1.2
  have hB := hs.2.2.1.1
  have hB2 := hs.2.2.1.2
  have hN := hs.2.2.2.1.1
  have hN2 := hs.2.2.2.1.2
  obtain ⟨⟨a, ha, ea⟩, ⟨b, hb, eb⟩, ⟨h0, hh0, eh0⟩, ⟨g, hg, eg⟩⟩ := hs.2.2.2.2.2 k h_k
  have xa : I (aD 0 k) 0 = nI (nv (I (aD 0 k) 0)) := by rw [ea, nv_nI (by omega)]
  have xa2 : nv (I (aD 0 k) 0) < 5 := by rw [ea, nv_nI (by omega)]; exact ha
  have xb : I (aD 0 k) 1 = nI (nv (I (aD 0 k) 1)) := by rw [eb, nv_nI (by omega)]
  have xb2 : nv (I (aD 0 k) 1) < 5 := by rw [eb, nv_nI (by omega)]; exact hb
  have xg : I (aD 0 k) 3 = nI (nv (I (aD 0 k) 3)) := by rw [eg, nv_nI (by omega)]
  have xg2 : nv (I (aD 0 k) 3) < 4 := by rw [eg, nv_nI (by omega)]; exact hg
  refine jr_iload_n hX dX5_repay_0 rfl ?_
  refine jr_aload_n hX dX5_repay_1 rfl ?_
  refine jr_getr hX kF_X5_12 rfl (ly_kI hly) (ly_p5_0 hly) dX5_repay_2 ?_
  refine jr_geti hX kF_X5_183 rfl (ly_kW hly (by first | assumption | omega)) dX5_repay_5 ?_
  rw [hN]
  refine jr_void (jr_runS hX hSt kM_X5_29 (c_needIndex_ok (jj_fl hX) (a := k) (c := N) h_k (by omega)) rfl rfl dX5_repay_8 rfl ⟨jj_b1 rfl, jj_b1 rfl⟩ rfl) ?_
  refine jr_aload_n hX dX5_repay_11 rfl ?_
  refine jr_iload_n hX dX5_repay_12 rfl ?_
  refine jr_void (jr_runV hX hSt kM_X5_54 (c_needHarbour_ok (jj_fl hX) hly h_h hH (by omega)) rfl rfl (ly_kI hly) ⟨_, _, rfl, by decide⟩ dX5_repay_13 rfl ⟨jj_b1 rfl, jj_b1 rfl⟩ rfl) ?_
  refine jr_aload_n hX dX5_repay_16 rfl ?_
  refine jr_getr hX kF_X5_12 rfl (ly_kI hly) (ly_p5_0 hly) dX5_repay_17 ?_
  refine jr_getr hX kF_X5_190 rfl (ly_kW hly (by first | assumption | omega)) (ly_p4_6 hly (by first | assumption | omega)) dX5_repay_20 ?_
  refine jr_iload_n hX dX5_repay_23 rfl ?_
  refine jr_aDs hX hly (by first | assumption | omega) (by first | with_reducible rfl | with_reducible assumption | rfl) (by first | assumption | omega) dX5_repay_24 ?_
  refine jr_astore_n hX dX5_repay_25 rfl ?_
  refine jr_aload_n hX dX5_repay_26 rfl ?_
  refine jr_geti hX kF_X5_200 rfl (ly_kD hly (by first | assumption | omega) (by first | assumption | omega)) dX5_repay_27 ?_
  refine jr_if_eq (tgt := 43) hX dX5_repay_30 (by decide) (fun c_30 => ?_) (fun c_30 => absurd h_s c_30)
  refine jr_iload_n hX dX5_repay_43 rfl ?_
  refine jr_aload_n hX dX5_repay_44 rfl ?_
  refine jr_geti hX kF_X5_205 rfl (ly_kD hly (by first | assumption | omega) (by first | assumption | omega)) dX5_repay_45 ?_
  rw [xg]
  refine jr_ret (jr_runS hX hSt kM_X5_61 (c_X5_cellOf (jj_fl hX) (h := h) (g := nv (I (aD 0 k) 3))) rfl rfl dX5_repay_48 rfl ⟨jj_b1 rfl, jj_b1 rfl⟩ rfl) ?_
  refine jr_istore hX dX5_repay_51 rfl ?_
  refine jr_aload_n hX dX5_repay_53 rfl ?_
  refine jr_getr hX kF_X5_12 rfl (ly_kI hly) (ly_p5_0 hly) dX5_repay_54 ?_
  refine jr_getr hX kF_X5_76 rfl (ly_kW hly (by first | assumption | omega)) (ly_p4_4 hly (by first | assumption | omega)) dX5_repay_57 ?_
  refine jr_aload_n hX dX5_repay_60 rfl ?_
  refine jr_geti hX kF_X5_208 rfl (ly_kD hly (by first | assumption | omega) (by first | assumption | omega)) dX5_repay_61 ?_
  refine jr_aMs hX hly (by first | assumption | omega) (by first | with_reducible rfl | with_reducible assumption | rfl) (by first | assumption | omega) dX5_repay_64 ?_
  refine jr_getr hX kF_X5_88 rfl (ly_kM hly (by first | assumption | omega) (by first | assumption | omega)) (ly_p2_1 hly (by first | assumption | omega) (by first | assumption | omega)) dX5_repay_65 ?_
  refine jr_iload hX dX5_repay_68 rfl ?_
  refine jr_iald hX (by first | with_reducible assumption | with_reducible exact ly_kWm hly (by first | assumption | omega) | with_reducible exact ly_kLd hly (by first | assumption | omega) | with_reducible exact ly_kIc hly (by first | assumption | omega) | with_reducible exact ly_kBe hly (by first | assumption | omega) | with_reducible exact ly_kPr hly (by first | assumption | omega) | with_reducible exact ly_kMt hly (by first | assumption | omega) (by first | assumption | omega) | with_reducible exact ly_kBc hly (by first | assumption | omega) (by first | assumption | omega) | with_reducible exact ly_kAh hly (by first | assumption | omega)) (by first | with_reducible rfl | with_reducible assumption | rfl) (by omega) dX5_repay_70 ?_
  refine jr_aload_n hX dX5_repay_71 rfl ?_
  refine jr_geti hX kF_X5_211 rfl (ly_kD hly (by first | assumption | omega) (by first | assumption | omega)) dX5_repay_72 ?_
  refine jr_void (jr_runS hX hSt kM_X5_94 (c_needEnough_ok (jj_fl hX) h_e) rfl rfl dX5_repay_75 rfl ⟨jj_b1 rfl, jj_b1 rfl⟩ rfl) ?_
  refine jr_aload_n hX dX5_repay_78 rfl ?_
  refine jr_getr hX kF_X5_12 rfl (ly_kI hly) (ly_p5_0 hly) dX5_repay_79 ?_
  refine jr_aload_n hX dX5_repay_82 rfl ?_
  refine jr_geti hX kF_X5_208 rfl (ly_kD hly (by first | assumption | omega) (by first | assumption | omega)) dX5_repay_83 ?_
  refine jr_aload_n hX dX5_repay_86 rfl ?_
  refine jr_geti hX kF_X5_214 rfl (ly_kD hly (by first | assumption | omega) (by first | assumption | omega)) dX5_repay_87 ?_
  refine jr_iload hX dX5_repay_90 rfl ?_
  refine jr_aload_n hX dX5_repay_92 rfl ?_
  refine jr_geti hX kF_X5_211 rfl (ly_kD hly (by first | assumption | omega) (by first | assumption | omega)) dX5_repay_93 ?_
  refine jr_void (jr_runV hX hSt kM_X5_186 (c_X4_hand (jj_fl hX) hly (by omega) xb xa rfl xb2 xa2 (by omega)) rfl rfl (ly_kW hly (by first | assumption | omega)) ⟨_, _, rfl, by decide⟩ dX5_repay_96 rfl ⟨jj_b1 rfl, jj_b1 rfl⟩ rfl) ?_
  refine jr_aload_n hX dX5_repay_99 rfl ?_
  refine jr_iconst (v := 1) hX dX5_repay_100 (by decide) ?_
  refine jr_puti hX kF_X5_200 rfl (ly_kD hly (by first | assumption | omega) (by first | assumption | omega)) aD_0 dX5_repay_101 ?_
  refine jr_aload_n hX dX5_repay_104 rfl ?_
  refine jr_geti hX kF_X5_211 rfl (ly_kD hly (by first | assumption | omega) (by first | assumption | omega)) dX5_repay_105 ?_
  exact jr_iret hX dX5_repay_108 rfl rfl ⟨rfl, rfl, rfl, rfl, rfl, rfl⟩
set_option maxHeartbeats 4000000 in
set_option maxRecDepth 100000 in
theorem c_debt_ok {l : Launch} (hfl : l.stackTraces = false) {D : jj_D} {n : Nat} {K : jj_K} {I : jj_I} {P : jj_P} {G : jj_G} (hly : ly K P) {H M B N : Nat} {k : Nat} {t : Nat} (hs : sf 0 H M B N I) (h_k : k < N) (h_t : t < 7) :
    jj_Met l D yX5_debt (jj_ws yX5_debt cX5_debt 3 (some .int)) { frames := 7, cells := 0, slots := 0, locals := 111 } [.ref 1, .int (nI k), .int (nI t)] n K I P G (jj_R (some (.int (I (aD 0 k) t))) (n) (K) (I) (P) (G)) jj_noX := by
  refine jj_of hfl (by decide +kernel) [some (.ref 1), some (.int (nI k)), some (.int (nI t))] rfl rfl ?_
  intro X hXl hX hSt
  have hH := hs.1.1
  have hH2 := hs.1.2
  have hM := hs.2.1.1
  have hM2 := hs.2.1.2
  have hB := hs.2.2.1.1
  have hB2 := hs.2.2.1.2
  have hN := hs.2.2.2.1.1
  have hN2 := hs.2.2.2.1.2
  refine jr_iload_n hX dX5_debt_0 rfl ?_
  refine jr_aload_n hX dX5_debt_1 rfl ?_
  refine jr_getr hX kF_X5_12 rfl (ly_kI hly) (ly_p5_0 hly) dX5_debt_2 ?_
  refine jr_geti hX kF_X5_183 rfl (ly_kW hly (by first | assumption | omega)) dX5_debt_5 ?_
  rw [hN]
  refine jr_void (jr_runS hX hSt kM_X5_29 (c_needIndex_ok (jj_fl hX) (a := k) (c := N) h_k (by omega)) rfl rfl dX5_debt_8 rfl ⟨jj_b1 rfl, jj_b1 rfl⟩ rfl) ?_
  refine jr_iload_n hX dX5_debt_11 rfl ?_
  refine jr_bipush (v := 7) hX dX5_debt_12 (by decide) ?_
  refine jr_void (jr_runS hX hSt kM_X5_29 (c_needIndex_ok (jj_fl hX) (a := t) (c := 7) h_t (by omega)) rfl rfl dX5_debt_14 rfl ⟨jj_b1 rfl, jj_b1 rfl⟩ rfl) ?_
  refine jr_aload_n hX dX5_debt_17 rfl ?_
  refine jr_getr hX kF_X5_12 rfl (ly_kI hly) (ly_p5_0 hly) dX5_debt_18 ?_
  refine jr_getr hX kF_X5_190 rfl (ly_kW hly (by first | assumption | omega)) (ly_p4_6 hly (by first | assumption | omega)) dX5_debt_21 ?_
  refine jr_iload_n hX dX5_debt_24 rfl ?_
  refine jr_aDs hX hly (by first | assumption | omega) (by first | with_reducible rfl | with_reducible assumption | rfl) (by first | assumption | omega) dX5_debt_25 ?_
  refine jr_iload_n hX dX5_debt_26 rfl ?_
  refine jr_ret (jr_runS hX hSt kM_X5_217 (c_debtFact (jj_fl hX) hly (by omega) h_t) rfl rfl dX5_debt_27 rfl ⟨jj_b1 rfl, jj_b1 rfl⟩ rfl) ?_
  exact jr_iret hX dX5_debt_30 rfl rfl ⟨rfl, rfl, rfl, rfl, rfl, rfl⟩
set_option maxHeartbeats 4000000 in
set_option maxRecDepth 100000 in
theorem c_count_ok {l : Launch} (hfl : l.stackTraces = false) {D : jj_D} {n : Nat} {K : jj_K} {I : jj_I} {P : jj_P} {G : jj_G} (hly : ly K P) {H M B N : Nat} {t : Nat} (hs : sf 0 H M B N I) (h_t : t < 10) :
    jj_Met l D yX5_count (jj_ws yX5_count cX5_count 2 (some .int)) { frames := 7, cells := 0, slots := 0, locals := 111 } [.ref 1, .int (nI t)] n K I P G (jj_R (some (.int (q_cf H M B N I t))) (n) (K) (I) (P) (G)) jj_noX := by
  refine jj_of hfl (by decide +kernel) [some (.ref 1), some (.int (nI t))] rfl rfl ?_
  intro X hXl hX hSt
  have hH := hs.1.1
  have hH2 := hs.1.2
  have hM := hs.2.1.1
  have hM2 := hs.2.1.2
  have hB := hs.2.2.1.1
  have hB2 := hs.2.2.1.2
  have hN := hs.2.2.2.1.1
  have hN2 := hs.2.2.2.1.2
  refine jr_iload_n hX dX5_count_0 rfl ?_
  refine jr_bipush (v := 10) hX dX5_count_1 (by decide) ?_
  refine jr_void (jr_runS hX hSt kM_X5_29 (c_needIndex_ok (jj_fl hX) (a := t) (c := 10) h_t (by omega)) rfl rfl dX5_count_3 rfl ⟨jj_b1 rfl, jj_b1 rfl⟩ rfl) ?_
  refine jr_aload_n hX dX5_count_6 rfl ?_
  refine jr_iload_n hX dX5_count_7 rfl ?_
  refine jr_ret (jr_runV hX hSt kM_X5_227 (c_countFact (jj_fl hX) hly hs h_t) rfl rfl (ly_kI hly) ⟨_, _, rfl, by decide⟩ dX5_count_8 rfl ⟨jj_b1 rfl, jj_b1 rfl⟩ rfl) ?_
  exact jr_iret hX dX5_count_11 rfl rfl ⟨rfl, rfl, rfl, rfl, rfl, rfl⟩
