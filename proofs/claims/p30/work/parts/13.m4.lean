/-! what the calls need, and what they tell -/
theorem jl_ixl {a c : Nat} (h : a < c) (hc : c < 2147483648) : nI a < nI c := nI_lt h (by omega)
def q_hf (h H B : Nat) (I : jj_I) (t : Nat) : Int32 := if t = 0 then I (aBe 0) h else if t = 1 then sm (q_bl 0 (nI h) 1 I) B else if t = 2 then sm (q_bl 0 (nI h) 1 I) B + sm (q_bl 0 (nI h) 0 I) B else if t = 3 then f_ia 0 h H I else I (aPr 0) (h * 4 + (t - 4))
def q_lf (l B : Nat) (I : jj_I) (t : Nat) : Int32 := if t = 0 then I (aLd 0) l else if t = 1 then I (aIc 0) l else if t = 2 then q_ol 0 I l else sm (q_bo 0 (nI l) I) B
def q_mf (m B N : Nat) (I : jj_I) (t : Nat) : Int32 := if t = 0 then I (aM 0 m) 0 else if t = 1 then sm (q_ba 0 (nI m) I) B else if t = 2 then sm (q_do 0 (nI m) 0 I) N else if t = 3 then sm (q_do 0 (nI m) 2 I) N else if t = 4 then sm (I (aMt 0 m)) 32 else sm (q_co 0 (nI m) I) B
def q_bf (b : Nat) (I : jj_I) (t : Nat) : Int32 := if t < 5 then I (aB 0 b) t else if t < 7 then I (aB 0 b) (t + 1) else if t = 7 then sm (I (aBc 0 b)) 4 else I (aBc 0 b) (t - 8)
def q_cf (H M B N : Nat) (I : jj_I) (t : Nat) : Int32 := if t = 0 then I (aR 0) 0 else if t = 1 then I (aR 0) 1 else if t = 2 then I (aW 0) 1 else if t = 3 then I (aW 0) 2 else if t = 4 then sm (q_bi 0 3 I) B else if t = 5 then sm (q_bi 0 2 I) B else if t = 6 then I (aW 0) 3 else if t = 7 then sm (fun m => sm (q_do 0 (nI m) 0 I) N) M else if t = 8 then sm (fun m => I (aM 0 m) 0) M else sm (q_ol 0 I) (H - 1)
set_option maxHeartbeats 4000000 in
set_option maxRecDepth 100000 in
theorem c_needIndex_ok {l : Launch} (hfl : l.stackTraces = false) {D : jj_D} {n : Nat} {K : jj_K} {I : jj_I} {P : jj_P} {G : jj_G} {a c : Nat} (h : a < c) (hc : c < 2147483648) :
    jj_Met l D yX5_needIndex (jj_ws yX5_needIndex cX5_needIndex 2 none) { frames := 6, cells := 0, slots := 0, locals := 90 } [.int (nI a), .int (nI c)] n K I P G (jj_R (none) (n) (K) (I) (P) (G)) jj_noX := by
  refine jj_of hfl (by decide +kernel) [some (.int (nI a)), some (.int (nI c))] rfl rfl ?_
  intro X hXl hX hSt
  refine jr_iload_n hX dX5_needIndex_0 rfl ?_
  refine jr_if_lt (tgt := 9) hX dX5_needIndex_1 (by decide) (fun c_1 => absurd c_1 (nI_pos (by omega))) (fun c_1 => ?_)
  refine jr_iload_n hX dX5_needIndex_4 rfl ?_
  refine jr_iload_n hX dX5_needIndex_5 rfl ?_
  refine jr_icmp_lt (tgt := 20) hX dX5_needIndex_6 (by decide) (fun c_6 => ?_) (fun c_6 => absurd (jl_ixl h hc) c_6)
  exact jr_vret hX dX5_needIndex_20 rfl rfl ⟨rfl, rfl, rfl, rfl, rfl, rfl⟩
set_option maxHeartbeats 4000000 in
set_option maxRecDepth 100000 in
theorem c_needNumber_ok {l : Launch} (hfl : l.stackTraces = false) {D : jj_D} {n : Nat} {K : jj_K} {I : jj_I} {P : jj_P} {G : jj_G} {x lo hi : Int32} (h : lo ≤ x ∧ x ≤ hi) :
    jj_Met l D yX5_needNumber (jj_ws yX5_needNumber cX5_needNumber 3 none) { frames := 6, cells := 0, slots := 0, locals := 90 } [.int x, .int lo, .int hi] n K I P G (jj_R (none) (n) (K) (I) (P) (G)) jj_noX := by
  refine jj_of hfl (by decide +kernel) [some (.int x), some (.int lo), some (.int hi)] rfl rfl ?_
  intro X hXl hX hSt
  refine jr_iload_n hX dX5_needNumber_0 rfl ?_
  refine jr_iload_n hX dX5_needNumber_1 rfl ?_
  refine jr_icmp_lt (tgt := 10) hX dX5_needNumber_2 (by decide) (fun c_2 => absurd c_2 (Int32.not_lt.mpr h.1)) (fun c_2 => ?_)
  refine jr_iload_n hX dX5_needNumber_5 rfl ?_
  refine jr_iload_n hX dX5_needNumber_6 rfl ?_
  refine jr_icmp_le (tgt := 21) hX dX5_needNumber_7 (by decide) (fun c_7 => ?_) (fun c_7 => absurd h.2 c_7)
  exact jr_vret hX dX5_needNumber_21 rfl rfl ⟨rfl, rfl, rfl, rfl, rfl, rfl⟩
set_option maxHeartbeats 4000000 in
set_option maxRecDepth 100000 in
theorem c_needAtLeast_ok {l : Launch} (hfl : l.stackTraces = false) {D : jj_D} {n : Nat} {K : jj_K} {I : jj_I} {P : jj_P} {G : jj_G} {x lo : Int32} (h : lo ≤ x) :
    jj_Met l D yX5_needAtLeast (jj_ws yX5_needAtLeast cX5_needAtLeast 2 none) { frames := 6, cells := 0, slots := 0, locals := 90 } [.int x, .int lo] n K I P G (jj_R (none) (n) (K) (I) (P) (G)) jj_noX := by
  refine jj_of hfl (by decide +kernel) [some (.int x), some (.int lo)] rfl rfl ?_
  intro X hXl hX hSt
  refine jr_iload_n hX dX5_needAtLeast_0 rfl ?_
  refine jr_iload_n hX dX5_needAtLeast_1 rfl ?_
  refine jr_icmp_ge (tgt := 16) hX dX5_needAtLeast_2 (by decide) (fun c_2 => ?_) (fun c_2 => absurd h c_2)
  exact jr_vret hX dX5_needAtLeast_16 rfl rfl ⟨rfl, rfl, rfl, rfl, rfl, rfl⟩
set_option maxHeartbeats 4000000 in
set_option maxRecDepth 100000 in
theorem c_needRoom_ok {l : Launch} (hfl : l.stackTraces = false) {D : jj_D} {n : Nat} {K : jj_K} {I : jj_I} {P : jj_P} {G : jj_G} {x m : Int32} (h : x < m) :
    jj_Met l D yX5_needRoomForOneMore (jj_ws yX5_needRoomForOneMore cX5_needRoomForOneMore 2 none) { frames := 6, cells := 0, slots := 0, locals := 90 } [.int x, .int m] n K I P G (jj_R (none) (n) (K) (I) (P) (G)) jj_noX := by
  refine jj_of hfl (by decide +kernel) [some (.int x), some (.int m)] rfl rfl ?_
  intro X hXl hX hSt
  refine jr_iload_n hX dX5_needRoomForOneMore_0 rfl ?_
  refine jr_iload_n hX dX5_needRoomForOneMore_1 rfl ?_
  refine jr_icmp_lt (tgt := 16) hX dX5_needRoomForOneMore_2 (by decide) (fun c_2 => ?_) (fun c_2 => absurd h c_2)
  exact jr_vret hX dX5_needRoomForOneMore_16 rfl rfl ⟨rfl, rfl, rfl, rfl, rfl, rfl⟩
set_option maxHeartbeats 4000000 in
set_option maxRecDepth 100000 in
theorem c_needEnough_ok {l : Launch} (hfl : l.stackTraces = false) {D : jj_D} {n : Nat} {K : jj_K} {I : jj_I} {P : jj_P} {G : jj_G} {x m : Int32} (h : m ≤ x) :
    jj_Met l D yX5_needEnough (jj_ws yX5_needEnough cX5_needEnough 2 none) { frames := 6, cells := 0, slots := 0, locals := 90 } [.int x, .int m] n K I P G (jj_R (none) (n) (K) (I) (P) (G)) jj_noX := by
  refine jj_of hfl (by decide +kernel) [some (.int x), some (.int m)] rfl rfl ?_
  intro X hXl hX hSt
  refine jr_iload_n hX dX5_needEnough_0 rfl ?_
  refine jr_iload_n hX dX5_needEnough_1 rfl ?_
  refine jr_icmp_ge (tgt := 16) hX dX5_needEnough_2 (by decide) (fun c_2 => ?_) (fun c_2 => absurd h c_2)
  exact jr_vret hX dX5_needEnough_16 rfl rfl ⟨rfl, rfl, rfl, rfl, rfl, rfl⟩
set_option maxHeartbeats 4000000 in
set_option maxRecDepth 100000 in
theorem c_needInHarbour_ok {l : Launch} (hfl : l.stackTraces = false) {D : jj_D} {n : Nat} {K : jj_K} {I : jj_I} {P : jj_P} {G : jj_G} (hly : ly K P) {b : Nat} (hb : b < 10) (h : I (aB 0 b) 3 = 0 ∨ I (aB 0 b) 3 = 1) :
    jj_Met l D yX5_needInHarbour (jj_ws yX5_needInHarbour cX5_needInHarbour 1 none) { frames := 6, cells := 0, slots := 0, locals := 90 } [.ref (aB 0 b)] n K I P G (jj_R (none) (n) (K) (I) (P) (G)) jj_noX := by
  refine jj_of hfl (by decide +kernel) [some (.ref (aB 0 b))] rfl rfl ?_
  intro X hXl hX hSt
  refine jr_aload_n hX dX5_needInHarbour_0 rfl ?_
  refine jr_ret (jr_runV hX hSt kM_X5_293 (c_X0_isInHarbour (jj_fl hX) hly (by omega) hb) rfl rfl (ly_kB hly (by first | assumption | omega) (by first | assumption | omega)) ⟨_, _, rfl, by decide⟩ dX5_needInHarbour_1 rfl ⟨jj_b1 rfl, jj_b1 rfl⟩ rfl) ?_
  refine jr_if_ne (tgt := 18) hX dX5_needInHarbour_4 (by decide) (fun c_4 => ?_) (fun c_4 => absurd h (jl_00 c_4))
  exact jr_vret hX dX5_needInHarbour_18 rfl rfl ⟨rfl, rfl, rfl, rfl, rfl, rfl⟩
set_option maxHeartbeats 4000000 in
set_option maxRecDepth 100000 in
theorem c_needHarbour_ok {l : Launch} (hfl : l.stackTraces = false) {D : jj_D} {n : Nat} {K : jj_K} {I : jj_I} {P : jj_P} {G : jj_G} (hly : ly K P) {a c : Nat} (h : a < c) (hc : I (aR 0) 1 = nI c) (hc9 : c < 2147483648) :
    jj_Met l D yX5_needHarbour (jj_ws yX5_needHarbour cX5_needHarbour 2 none) { frames := 7, cells := 0, slots := 0, locals := 111 } [.ref 1, .int (nI a)] n K I P G (jj_R (none) (n) (K) (I) (P) (G)) jj_noX := by
  refine jj_of hfl (by decide +kernel) [some (.ref 1), some (.int (nI a))] rfl rfl ?_
  intro X hXl hX hSt
  refine jr_iload_n hX dX5_needHarbour_0 rfl ?_
  refine jr_aload_n hX dX5_needHarbour_1 rfl ?_
  refine jr_getr hX kF_X5_20 rfl (ly_kI hly) (ly_p5_1 hly) dX5_needHarbour_2 ?_
  refine jr_geti hX kF_X5_43 rfl (ly_kR hly (by first | assumption | omega)) dX5_needHarbour_5 ?_
  rw [hc]
  refine jr_void (jr_runS hX hSt kM_X5_29 (c_needIndex_ok (jj_fl hX) h hc9) rfl rfl dX5_needHarbour_8 rfl ⟨jj_b1 rfl, jj_b1 rfl⟩ rfl) ?_
  exact jr_vret hX dX5_needHarbour_11 rfl rfl ⟨rfl, rfl, rfl, rfl, rfl, rfl⟩
set_option maxHeartbeats 4000000 in
set_option maxRecDepth 100000 in
theorem c_needLeg_ok {l : Launch} (hfl : l.stackTraces = false) {D : jj_D} {n : Nat} {K : jj_K} {I : jj_I} {P : jj_P} {G : jj_G} (hly : ly K P) {a c : Nat} (h : a < c) (hc : I (aR 0) 1 = nI (c + 1)) (hc2 : c + 1 ≤ 8) (hc9 : c < 2147483648) :
    jj_Met l D yX5_needLeg (jj_ws yX5_needLeg cX5_needLeg 2 none) { frames := 7, cells := 0, slots := 0, locals := 111 } [.ref 1, .int (nI a)] n K I P G (jj_R (none) (n) (K) (I) (P) (G)) jj_noX := by
  refine jj_of hfl (by decide +kernel) [some (.ref 1), some (.int (nI a))] rfl rfl ?_
  intro X hXl hX hSt
  refine jr_iload_n hX dX5_needLeg_0 rfl ?_
  refine jr_aload_n hX dX5_needLeg_1 rfl ?_
  refine jr_getr hX kF_X5_20 rfl (ly_kI hly) (ly_p5_1 hly) dX5_needLeg_2 ?_
  refine jr_ret (jr_runV hX hSt kM_X5_298 (c_X3_legs (jj_fl hX) hly (by omega) hc hc2) rfl rfl (ly_kR hly (by first | assumption | omega)) ⟨_, _, rfl, by decide⟩ dX5_needLeg_5 rfl ⟨jj_b1 rfl, jj_b1 rfl⟩ rfl) ?_
  refine jr_void (jr_runS hX hSt kM_X5_29 (c_needIndex_ok (jj_fl hX) h hc9) rfl rfl dX5_needLeg_8 rfl ⟨jj_b1 rfl, jj_b1 rfl⟩ rfl) ?_
  exact jr_vret hX dX5_needLeg_11 rfl rfl ⟨rfl, rfl, rfl, rfl, rfl, rfl⟩
set_option maxHeartbeats 4000000 in
set_option maxRecDepth 100000 in
theorem c_needMerchant_ok {l : Launch} (hfl : l.stackTraces = false) {D : jj_D} {n : Nat} {K : jj_K} {I : jj_I} {P : jj_P} {G : jj_G} (hly : ly K P) {a c : Nat} (h : a < c) (hc : I (aW 0) 1 = nI c) (hc9 : c < 2147483648) :
    jj_Met l D yX5_needMerchant (jj_ws yX5_needMerchant cX5_needMerchant 2 none) { frames := 7, cells := 0, slots := 0, locals := 111 } [.ref 1, .int (nI a)] n K I P G (jj_R (none) (n) (K) (I) (P) (G)) jj_noX := by
  refine jj_of hfl (by decide +kernel) [some (.ref 1), some (.int (nI a))] rfl rfl ?_
  intro X hXl hX hSt
  refine jr_iload_n hX dX5_needMerchant_0 rfl ?_
  refine jr_aload_n hX dX5_needMerchant_1 rfl ?_
  refine jr_getr hX kF_X5_12 rfl (ly_kI hly) (ly_p5_0 hly) dX5_needMerchant_2 ?_
  refine jr_geti hX kF_X5_73 rfl (ly_kW hly (by first | assumption | omega)) dX5_needMerchant_5 ?_
  rw [hc]
  refine jr_void (jr_runS hX hSt kM_X5_29 (c_needIndex_ok (jj_fl hX) h hc9) rfl rfl dX5_needMerchant_8 rfl ⟨jj_b1 rfl, jj_b1 rfl⟩ rfl) ?_
  exact jr_vret hX dX5_needMerchant_11 rfl rfl ⟨rfl, rfl, rfl, rfl, rfl, rfl⟩
set_option maxHeartbeats 4000000 in
set_option maxRecDepth 100000 in
theorem c_needBoat_ok {l : Launch} (hfl : l.stackTraces = false) {D : jj_D} {n : Nat} {K : jj_K} {I : jj_I} {P : jj_P} {G : jj_G} (hly : ly K P) {a c : Nat} (h : a < c) (hc : I (aW 0) 2 = nI c) (hc9 : c < 2147483648) :
    jj_Met l D yX5_needBoat (jj_ws yX5_needBoat cX5_needBoat 2 none) { frames := 7, cells := 0, slots := 0, locals := 111 } [.ref 1, .int (nI a)] n K I P G (jj_R (none) (n) (K) (I) (P) (G)) jj_noX := by
  refine jj_of hfl (by decide +kernel) [some (.ref 1), some (.int (nI a))] rfl rfl ?_
  intro X hXl hX hSt
  refine jr_iload_n hX dX5_needBoat_0 rfl ?_
  refine jr_aload_n hX dX5_needBoat_1 rfl ?_
  refine jr_getr hX kF_X5_12 rfl (ly_kI hly) (ly_p5_0 hly) dX5_needBoat_2 ?_
  refine jr_geti hX kF_X5_100 rfl (ly_kW hly (by first | assumption | omega)) dX5_needBoat_5 ?_
  rw [hc]
  refine jr_void (jr_runS hX hSt kM_X5_29 (c_needIndex_ok (jj_fl hX) h hc9) rfl rfl dX5_needBoat_8 rfl ⟨jj_b1 rfl, jj_b1 rfl⟩ rfl) ?_
  exact jr_vret hX dX5_needBoat_11 rfl rfl ⟨rfl, rfl, rfl, rfl, rfl, rfl⟩
set_option maxHeartbeats 4000000 in
set_option maxRecDepth 100000 in
theorem c_harbourFact {l : Launch} (hfl : l.stackTraces = false) {D : jj_D} {n : Nat} {K : jj_K} {I : jj_I} {P : jj_P} {G : jj_G} (hly : ly K P) {H M B N : Nat} {h t : Nat} (hs : sf 0 H M B N I) (hh : h < H) (ht : t < 8) :
    jj_Met l D yX5_harbourFact (jj_ws yX5_harbourFact cX5_harbourFact 3 (some .int)) { frames := 3, cells := 0, slots := 0, locals := 63 } [.ref 1, .int (nI h), .int (nI t)] n K I P G (jj_R (some (.int (q_hf h H B I t))) (n) (K) (I) (P) (G)) jj_noX := by
  refine jj_of hfl (by decide +kernel) [some (.ref 1), some (.int (nI h)), some (.int (nI t))] rfl rfl ?_
  intro X hXl hX hSt
  have hH := hs.1.1
  have hH2 := hs.1.2
  have hM := hs.2.1.1
  have hM2 := hs.2.1.2
  have hB := hs.2.2.1.1
  have hB2 := hs.2.2.1.2
  have hN := hs.2.2.2.1.1
  have hN2 := hs.2.2.2.1.2
  have hlits : t = 0 ∨ t = 1 ∨ t = 2 ∨ t = 3 ∨ t = 4 ∨ t = 5 ∨ t = 6 ∨ t = 7 := by omega
  rcases hlits with rfl | rfl | rfl | rfl | rfl | rfl | rfl | rfl
  · refine jr_iload_n hX dX5_harbourFact_0 rfl ?_
    refine jr_tabIn (tgt := 32) hX dX5_harbourFact_1 (by decide) (by decide) rfl (by decide) ?_
    refine jr_aload_n hX dX5_harbourFact_32 rfl ?_
    refine jr_getr hX kF_X5_20 rfl (ly_kI hly) (ly_p5_1 hly) dX5_harbourFact_33 ?_
    refine jr_getr hX kF_X5_310 rfl (ly_kR hly (by first | assumption | omega)) (ly_p3_5 hly (by first | assumption | omega)) dX5_harbourFact_36 ?_
    refine jr_iload_n hX dX5_harbourFact_39 rfl ?_
    refine jr_iald hX (by first | with_reducible assumption | with_reducible exact ly_kWm hly (by first | assumption | omega) | with_reducible exact ly_kLd hly (by first | assumption | omega) | with_reducible exact ly_kIc hly (by first | assumption | omega) | with_reducible exact ly_kBe hly (by first | assumption | omega) | with_reducible exact ly_kPr hly (by first | assumption | omega) | with_reducible exact ly_kMt hly (by first | assumption | omega) (by first | assumption | omega) | with_reducible exact ly_kBc hly (by first | assumption | omega) (by first | assumption | omega) | with_reducible exact ly_kAh hly (by first | assumption | omega)) (by first | with_reducible rfl | with_reducible assumption | rfl) (by omega) dX5_harbourFact_40 ?_
    exact jr_iret hX dX5_harbourFact_41 rfl rfl ⟨rfl, rfl, rfl, rfl, rfl, rfl⟩
  · refine jr_iload_n hX dX5_harbourFact_0 rfl ?_
    refine jr_tabIn (tgt := 42) hX dX5_harbourFact_1 (by decide) (by decide) rfl (by decide) ?_
    refine jr_aload_n hX dX5_harbourFact_42 rfl ?_
    refine jr_getr hX kF_X5_12 rfl (ly_kI hly) (ly_p5_0 hly) dX5_harbourFact_43 ?_
    refine jr_iload_n hX dX5_harbourFact_46 rfl ?_
    refine jr_iconst (v := 1) hX dX5_harbourFact_47 (by decide) ?_
    refine jr_ret (jr_runV hX hSt kM_X5_313 (c_X4_boatsLying (jj_fl hX) hly (by omega) hB hB2) rfl rfl (ly_kW hly (by first | assumption | omega)) ⟨_, _, rfl, by decide⟩ dX5_harbourFact_48 rfl ⟨jj_b1 rfl, jj_b1 rfl⟩ rfl) ?_
    exact jr_iret hX dX5_harbourFact_51 rfl rfl ⟨rfl, rfl, rfl, rfl, rfl, rfl⟩
  · refine jr_iload_n hX dX5_harbourFact_0 rfl ?_
    refine jr_tabIn (tgt := 52) hX dX5_harbourFact_1 (by decide) (by decide) rfl (by decide) ?_
    refine jr_aload_n hX dX5_harbourFact_52 rfl ?_
    refine jr_getr hX kF_X5_12 rfl (ly_kI hly) (ly_p5_0 hly) dX5_harbourFact_53 ?_
    refine jr_iload_n hX dX5_harbourFact_56 rfl ?_
    refine jr_iconst (v := 1) hX dX5_harbourFact_57 (by decide) ?_
    refine jr_ret (jr_runV hX hSt kM_X5_313 (c_X4_boatsLying (jj_fl hX) hly (by omega) hB hB2) rfl rfl (ly_kW hly (by first | assumption | omega)) ⟨_, _, rfl, by decide⟩ dX5_harbourFact_58 rfl ⟨jj_b1 rfl, jj_b1 rfl⟩ rfl) ?_
    refine jr_aload_n hX dX5_harbourFact_61 rfl ?_
    refine jr_getr hX kF_X5_12 rfl (ly_kI hly) (ly_p5_0 hly) dX5_harbourFact_62 ?_
    refine jr_iload_n hX dX5_harbourFact_65 rfl ?_
    refine jr_iconst (v := 0) hX dX5_harbourFact_66 (by decide) ?_
    refine jr_ret (jr_runV hX hSt kM_X5_313 (c_X4_boatsLying (jj_fl hX) hly (by omega) hB hB2) rfl rfl (ly_kW hly (by first | assumption | omega)) ⟨_, _, rfl, by decide⟩ dX5_harbourFact_67 rfl ⟨jj_b1 rfl, jj_b1 rfl⟩ rfl) ?_
    refine jr_iadd hX dX5_harbourFact_70 ?_
    exact jr_iret hX dX5_harbourFact_71 rfl rfl ⟨rfl, rfl, rfl, rfl, rfl, rfl⟩
  · refine jr_iload_n hX dX5_harbourFact_0 rfl ?_
    refine jr_tabIn (tgt := 72) hX dX5_harbourFact_1 (by decide) (by decide) rfl (by decide) ?_
    refine jr_aload_n hX dX5_harbourFact_72 rfl ?_
    refine jr_getr hX kF_X5_20 rfl (ly_kI hly) (ly_p5_1 hly) dX5_harbourFact_73 ?_
    refine jr_iload_n hX dX5_harbourFact_76 rfl ?_
    refine jr_ret (jr_runV hX hSt kM_X5_316 (c_X3_iceAtHarbour (jj_fl hX) hly (by omega) hH hH2 rfl hh) rfl rfl (ly_kR hly (by first | assumption | omega)) ⟨_, _, rfl, by decide⟩ dX5_harbourFact_77 rfl ⟨jj_b1 rfl, jj_b1 rfl⟩ rfl) ?_
    exact jr_iret hX dX5_harbourFact_80 rfl rfl ⟨rfl, rfl, rfl, rfl, rfl, rfl⟩
  · refine jr_iload_n hX dX5_harbourFact_0 rfl ?_
    refine jr_tabOut (tgt := 81) hX dX5_harbourFact_1 (by decide) (by decide) ?_
    refine jr_aload_n hX dX5_harbourFact_81 rfl ?_
    refine jr_getr hX kF_X5_20 rfl (ly_kI hly) (ly_p5_1 hly) dX5_harbourFact_82 ?_
    refine jr_getr hX kF_X5_58 rfl (ly_kR hly (by first | assumption | omega)) (ly_p3_6 hly (by first | assumption | omega)) dX5_harbourFact_85 ?_
    refine jr_iload_n hX dX5_harbourFact_88 rfl ?_
    refine jr_iload_n hX dX5_harbourFact_89 rfl ?_
    refine jr_iconst (v := 4) hX dX5_harbourFact_90 (by decide) ?_
    refine jr_isub hX dX5_harbourFact_91 ?_
    refine jr_ret (jr_runS hX hSt kM_X5_61 (c_X5_cellOf (jj_fl hX) (h := h) (g := 0)) rfl rfl dX5_harbourFact_92 rfl ⟨jj_b1 rfl, jj_b1 rfl⟩ rfl) ?_
    refine jr_iald hX (by first | with_reducible assumption | with_reducible exact ly_kWm hly (by first | assumption | omega) | with_reducible exact ly_kLd hly (by first | assumption | omega) | with_reducible exact ly_kIc hly (by first | assumption | omega) | with_reducible exact ly_kBe hly (by first | assumption | omega) | with_reducible exact ly_kPr hly (by first | assumption | omega) | with_reducible exact ly_kMt hly (by first | assumption | omega) (by first | assumption | omega) | with_reducible exact ly_kBc hly (by first | assumption | omega) (by first | assumption | omega) | with_reducible exact ly_kAh hly (by first | assumption | omega)) (by first | with_reducible rfl | with_reducible assumption | rfl) (by omega) dX5_harbourFact_95 ?_
    exact jr_iret hX dX5_harbourFact_96 rfl rfl ⟨rfl, rfl, rfl, rfl, rfl, rfl⟩
  · refine jr_iload_n hX dX5_harbourFact_0 rfl ?_
    refine jr_tabOut (tgt := 81) hX dX5_harbourFact_1 (by decide) (by decide) ?_
    refine jr_aload_n hX dX5_harbourFact_81 rfl ?_
    refine jr_getr hX kF_X5_20 rfl (ly_kI hly) (ly_p5_1 hly) dX5_harbourFact_82 ?_
    refine jr_getr hX kF_X5_58 rfl (ly_kR hly (by first | assumption | omega)) (ly_p3_6 hly (by first | assumption | omega)) dX5_harbourFact_85 ?_
    refine jr_iload_n hX dX5_harbourFact_88 rfl ?_
    refine jr_iload_n hX dX5_harbourFact_89 rfl ?_
    refine jr_iconst (v := 4) hX dX5_harbourFact_90 (by decide) ?_
    refine jr_isub hX dX5_harbourFact_91 ?_
    refine jr_ret (jr_runS hX hSt kM_X5_61 (c_X5_cellOf (jj_fl hX) (h := h) (g := 1)) rfl rfl dX5_harbourFact_92 rfl ⟨jj_b1 rfl, jj_b1 rfl⟩ rfl) ?_
    refine jr_iald hX (by first | with_reducible assumption | with_reducible exact ly_kWm hly (by first | assumption | omega) | with_reducible exact ly_kLd hly (by first | assumption | omega) | with_reducible exact ly_kIc hly (by first | assumption | omega) | with_reducible exact ly_kBe hly (by first | assumption | omega) | with_reducible exact ly_kPr hly (by first | assumption | omega) | with_reducible exact ly_kMt hly (by first | assumption | omega) (by first | assumption | omega) | with_reducible exact ly_kBc hly (by first | assumption | omega) (by first | assumption | omega) | with_reducible exact ly_kAh hly (by first | assumption | omega)) (by first | with_reducible rfl | with_reducible assumption | rfl) (by omega) dX5_harbourFact_95 ?_
    exact jr_iret hX dX5_harbourFact_96 rfl rfl ⟨rfl, rfl, rfl, rfl, rfl, rfl⟩
  · refine jr_iload_n hX dX5_harbourFact_0 rfl ?_
    refine jr_tabOut (tgt := 81) hX dX5_harbourFact_1 (by decide) (by decide) ?_
    refine jr_aload_n hX dX5_harbourFact_81 rfl ?_
    refine jr_getr hX kF_X5_20 rfl (ly_kI hly) (ly_p5_1 hly) dX5_harbourFact_82 ?_
    refine jr_getr hX kF_X5_58 rfl (ly_kR hly (by first | assumption | omega)) (ly_p3_6 hly (by first | assumption | omega)) dX5_harbourFact_85 ?_
    refine jr_iload_n hX dX5_harbourFact_88 rfl ?_
    refine jr_iload_n hX dX5_harbourFact_89 rfl ?_
    refine jr_iconst (v := 4) hX dX5_harbourFact_90 (by decide) ?_
    refine jr_isub hX dX5_harbourFact_91 ?_
    refine jr_ret (jr_runS hX hSt kM_X5_61 (c_X5_cellOf (jj_fl hX) (h := h) (g := 2)) rfl rfl dX5_harbourFact_92 rfl ⟨jj_b1 rfl, jj_b1 rfl⟩ rfl) ?_
    refine jr_iald hX (by first | with_reducible assumption | with_reducible exact ly_kWm hly (by first | assumption | omega) | with_reducible exact ly_kLd hly (by first | assumption | omega) | with_reducible exact ly_kIc hly (by first | assumption | omega) | with_reducible exact ly_kBe hly (by first | assumption | omega) | with_reducible exact ly_kPr hly (by first | assumption | omega) | with_reducible exact ly_kMt hly (by first | assumption | omega) (by first | assumption | omega) | with_reducible exact ly_kBc hly (by first | assumption | omega) (by first | assumption | omega) | with_reducible exact ly_kAh hly (by first | assumption | omega)) (by first | with_reducible rfl | with_reducible assumption | rfl) (by omega) dX5_harbourFact_95 ?_
    exact jr_iret hX dX5_harbourFact_96 rfl rfl ⟨rfl, rfl, rfl, rfl, rfl, rfl⟩
  · refine jr_iload_n hX dX5_harbourFact_0 rfl ?_
    refine jr_tabOut (tgt := 81) hX dX5_harbourFact_1 (by decide) (by decide) ?_
    refine jr_aload_n hX dX5_harbourFact_81 rfl ?_
    refine jr_getr hX kF_X5_20 rfl (ly_kI hly) (ly_p5_1 hly) dX5_harbourFact_82 ?_
    refine jr_getr hX kF_X5_58 rfl (ly_kR hly (by first | assumption | omega)) (ly_p3_6 hly (by first | assumption | omega)) dX5_harbourFact_85 ?_
    refine jr_iload_n hX dX5_harbourFact_88 rfl ?_
    refine jr_iload_n hX dX5_harbourFact_89 rfl ?_
    refine jr_iconst (v := 4) hX dX5_harbourFact_90 (by decide) ?_
    refine jr_isub hX dX5_harbourFact_91 ?_
    refine jr_ret (jr_runS hX hSt kM_X5_61 (c_X5_cellOf (jj_fl hX) (h := h) (g := 3)) rfl rfl dX5_harbourFact_92 rfl ⟨jj_b1 rfl, jj_b1 rfl⟩ rfl) ?_
    refine jr_iald hX (by first | with_reducible assumption | with_reducible exact ly_kWm hly (by first | assumption | omega) | with_reducible exact ly_kLd hly (by first | assumption | omega) | with_reducible exact ly_kIc hly (by first | assumption | omega) | with_reducible exact ly_kBe hly (by first | assumption | omega) | with_reducible exact ly_kPr hly (by first | assumption | omega) | with_reducible exact ly_kMt hly (by first | assumption | omega) (by first | assumption | omega) | with_reducible exact ly_kBc hly (by first | assumption | omega) (by first | assumption | omega) | with_reducible exact ly_kAh hly (by first | assumption | omega)) (by first | with_reducible rfl | with_reducible assumption | rfl) (by omega) dX5_harbourFact_95 ?_
    exact jr_iret hX dX5_harbourFact_96 rfl rfl ⟨rfl, rfl, rfl, rfl, rfl, rfl⟩
set_option maxHeartbeats 4000000 in
set_option maxRecDepth 100000 in
theorem c_legFact {l : Launch} (hfl : l.stackTraces = false) {D : jj_D} {n : Nat} {K : jj_K} {I : jj_I} {P : jj_P} {G : jj_G} (hly : ly K P) {H M B N : Nat} {h t : Nat} (hs : sf 0 H M B N I) (hh : h < 7) (ht : t < 4) :
    jj_Met l D yX5_legFact (jj_ws yX5_legFact cX5_legFact 3 (some .int)) { frames := 1, cells := 0, slots := 0, locals := 23 } [.ref 1, .int (nI h), .int (nI t)] n K I P G (jj_R (some (.int (q_lf h B I t))) (n) (K) (I) (P) (G)) jj_noX := by
  refine jj_of hfl (by decide +kernel) [some (.ref 1), some (.int (nI h)), some (.int (nI t))] rfl rfl ?_
  intro X hXl hX hSt
  have hH := hs.1.1
  have hH2 := hs.1.2
  have hM := hs.2.1.1
  have hM2 := hs.2.1.2
  have hB := hs.2.2.1.1
  have hB2 := hs.2.2.1.2
  have hN := hs.2.2.2.1.1
  have hN2 := hs.2.2.2.1.2
  have hlits : t = 0 ∨ t = 1 ∨ t = 2 ∨ t = 3 := by omega
  rcases hlits with rfl | rfl | rfl | rfl
  · refine jr_iload_n hX dX5_legFact_0 rfl ?_
    refine jr_tabIn (tgt := 28) hX dX5_legFact_1 (by decide) (by decide) rfl (by decide) ?_
    refine jr_aload_n hX dX5_legFact_28 rfl ?_
    refine jr_getr hX kF_X5_20 rfl (ly_kI hly) (ly_p5_1 hly) dX5_legFact_29 ?_
    refine jr_getr hX kF_X5_319 rfl (ly_kR hly (by first | assumption | omega)) (ly_p3_3 hly (by first | assumption | omega)) dX5_legFact_32 ?_
    refine jr_iload_n hX dX5_legFact_35 rfl ?_
    refine jr_iald hX (by first | with_reducible assumption | with_reducible exact ly_kWm hly (by first | assumption | omega) | with_reducible exact ly_kLd hly (by first | assumption | omega) | with_reducible exact ly_kIc hly (by first | assumption | omega) | with_reducible exact ly_kBe hly (by first | assumption | omega) | with_reducible exact ly_kPr hly (by first | assumption | omega) | with_reducible exact ly_kMt hly (by first | assumption | omega) (by first | assumption | omega) | with_reducible exact ly_kBc hly (by first | assumption | omega) (by first | assumption | omega) | with_reducible exact ly_kAh hly (by first | assumption | omega)) (by first | with_reducible rfl | with_reducible assumption | rfl) (by omega) dX5_legFact_36 ?_
    exact jr_iret hX dX5_legFact_37 rfl rfl ⟨rfl, rfl, rfl, rfl, rfl, rfl⟩
  · refine jr_iload_n hX dX5_legFact_0 rfl ?_
    refine jr_tabIn (tgt := 38) hX dX5_legFact_1 (by decide) (by decide) rfl (by decide) ?_
    refine jr_aload_n hX dX5_legFact_38 rfl ?_
    refine jr_getr hX kF_X5_20 rfl (ly_kI hly) (ly_p5_1 hly) dX5_legFact_39 ?_
    refine jr_getr hX kF_X5_230 rfl (ly_kR hly (by first | assumption | omega)) (ly_p3_4 hly (by first | assumption | omega)) dX5_legFact_42 ?_
    refine jr_iload_n hX dX5_legFact_45 rfl ?_
    refine jr_iald hX (by first | with_reducible assumption | with_reducible exact ly_kWm hly (by first | assumption | omega) | with_reducible exact ly_kLd hly (by first | assumption | omega) | with_reducible exact ly_kIc hly (by first | assumption | omega) | with_reducible exact ly_kBe hly (by first | assumption | omega) | with_reducible exact ly_kPr hly (by first | assumption | omega) | with_reducible exact ly_kMt hly (by first | assumption | omega) (by first | assumption | omega) | with_reducible exact ly_kBc hly (by first | assumption | omega) (by first | assumption | omega) | with_reducible exact ly_kAh hly (by first | assumption | omega)) (by first | with_reducible rfl | with_reducible assumption | rfl) (by omega) dX5_legFact_46 ?_
    exact jr_iret hX dX5_legFact_47 rfl rfl ⟨rfl, rfl, rfl, rfl, rfl, rfl⟩
  · refine jr_iload_n hX dX5_legFact_0 rfl ?_
    refine jr_tabIn (tgt := 48) hX dX5_legFact_1 (by decide) (by decide) rfl (by decide) ?_
    refine jr_aload_n hX dX5_legFact_48 rfl ?_
    refine jr_getr hX kF_X5_20 rfl (ly_kI hly) (ly_p5_1 hly) dX5_legFact_49 ?_
    refine jr_iload_n hX dX5_legFact_52 rfl ?_
    refine jr_ret (jr_runV hX hSt kM_X5_322 (c_X3_isOpen (jj_fl hX) hly (by omega) rfl hh) rfl rfl (ly_kR hly (by first | assumption | omega)) ⟨_, _, rfl, by decide⟩ dX5_legFact_53 rfl ⟨jj_b1 rfl, jj_b1 rfl⟩ rfl) ?_
    refine jr_if_eq (tgt := 63) hX dX5_legFact_56 (by decide) (fun c_56 => ?_) (fun c_56 => ?_)
    · refine jr_iconst (v := 0) hX dX5_legFact_63 (by decide) ?_
      exact jr_iret hX dX5_legFact_64 rfl rfl ⟨jj_ri c_56.symm, rfl, rfl, rfl, rfl, rfl⟩
    · refine jr_iconst (v := 1) hX dX5_legFact_59 (by decide) ?_
      refine jr_goto (tgt := 64) hX dX5_legFact_60 (by decide) ?_
      exact jr_iret hX dX5_legFact_64 rfl rfl ⟨jj_ri (by show 1 = q_ol 0 I h; unfold q_ol at c_56 ⊢; rw [if_pos (jl_01 c_56)]), rfl, rfl, rfl, rfl, rfl⟩
  · refine jr_iload_n hX dX5_legFact_0 rfl ?_
    refine jr_tabOut (tgt := 65) hX dX5_legFact_1 (by decide) (by decide) ?_
    refine jr_aload_n hX dX5_legFact_65 rfl ?_
    refine jr_getr hX kF_X5_12 rfl (ly_kI hly) (ly_p5_0 hly) dX5_legFact_66 ?_
    refine jr_iload_n hX dX5_legFact_69 rfl ?_
    refine jr_ret (jr_runV hX hSt kM_X5_326 (c_X4_boatsOnLeg (jj_fl hX) hly (by omega) hB hB2) rfl rfl (ly_kW hly (by first | assumption | omega)) ⟨_, _, rfl, by decide⟩ dX5_legFact_70 rfl ⟨jj_b1 rfl, jj_b1 rfl⟩ rfl) ?_
    exact jr_iret hX dX5_legFact_73 rfl rfl ⟨rfl, rfl, rfl, rfl, rfl, rfl⟩
set_option maxHeartbeats 4000000 in
set_option maxRecDepth 100000 in
theorem c_merchantFact {l : Launch} (hfl : l.stackTraces = false) {D : jj_D} {n : Nat} {K : jj_K} {I : jj_I} {P : jj_P} {G : jj_G} (hly : ly K P) {H M B N : Nat} {m t : Nat} (hs : sf 0 H M B N I) (hm : m < 5) (ht : t < 6) :
    jj_Met l D yX5_merchantFact (jj_ws yX5_merchantFact cX5_merchantFact 3 (some .int)) { frames := 3, cells := 0, slots := 0, locals := 65 } [.ref 1, .int (nI m), .int (nI t)] n K I P G (jj_R (some (.int (q_mf m B N I t))) (n) (K) (I) (P) (G)) jj_noX := by
  refine jj_of hfl (by decide +kernel) [some (.ref 1), some (.int (nI m)), some (.int (nI t))] rfl rfl ?_
  intro X hXl hX hSt
  have hH := hs.1.1
  have hH2 := hs.1.2
  have hM := hs.2.1.1
  have hM2 := hs.2.1.2
  have hB := hs.2.2.1.1
  have hB2 := hs.2.2.1.2
  have hN := hs.2.2.2.1.1
  have hN2 := hs.2.2.2.1.2
  have hlits : t = 0 ∨ t = 1 ∨ t = 2 ∨ t = 3 ∨ t = 4 ∨ t = 5 := by omega
  rcases hlits with rfl | rfl | rfl | rfl | rfl | rfl
  · refine jr_iload_n hX dX5_merchantFact_0 rfl ?_
    refine jr_tabIn (tgt := 36) hX dX5_merchantFact_1 (by decide) (by decide) rfl (by decide) ?_
    refine jr_aload_n hX dX5_merchantFact_36 rfl ?_
    refine jr_getr hX kF_X5_12 rfl (ly_kI hly) (ly_p5_0 hly) dX5_merchantFact_37 ?_
    refine jr_getr hX kF_X5_76 rfl (ly_kW hly (by first | assumption | omega)) (ly_p4_4 hly (by first | assumption | omega)) dX5_merchantFact_40 ?_
    refine jr_iload_n hX dX5_merchantFact_43 rfl ?_
    refine jr_aMs hX hly (by first | assumption | omega) (by first | with_reducible rfl | with_reducible assumption | rfl) (by first | assumption | omega) dX5_merchantFact_44 ?_
    refine jr_geti hX kF_X5_80 rfl (ly_kM hly (by first | assumption | omega) (by first | assumption | omega)) dX5_merchantFact_45 ?_
    exact jr_iret hX dX5_merchantFact_48 rfl rfl ⟨rfl, rfl, rfl, rfl, rfl, rfl⟩
  · refine jr_iload_n hX dX5_merchantFact_0 rfl ?_
    refine jr_tabIn (tgt := 49) hX dX5_merchantFact_1 (by decide) (by decide) rfl (by decide) ?_
    refine jr_aload_n hX dX5_merchantFact_49 rfl ?_
    refine jr_getr hX kF_X5_12 rfl (ly_kI hly) (ly_p5_0 hly) dX5_merchantFact_50 ?_
    refine jr_iload_n hX dX5_merchantFact_53 rfl ?_
    refine jr_ret (jr_runV hX hSt kM_X5_329 (c_X4_boatsAfloatOf (jj_fl hX) hly (by omega) hB hB2) rfl rfl (ly_kW hly (by first | assumption | omega)) ⟨_, _, rfl, by decide⟩ dX5_merchantFact_54 rfl ⟨jj_b1 rfl, jj_b1 rfl⟩ rfl) ?_
    exact jr_iret hX dX5_merchantFact_57 rfl rfl ⟨rfl, rfl, rfl, rfl, rfl, rfl⟩
  · refine jr_iload_n hX dX5_merchantFact_0 rfl ?_
    refine jr_tabIn (tgt := 58) hX dX5_merchantFact_1 (by decide) (by decide) rfl (by decide) ?_
    refine jr_aload_n hX dX5_merchantFact_58 rfl ?_
    refine jr_getr hX kF_X5_12 rfl (ly_kI hly) (ly_p5_0 hly) dX5_merchantFact_59 ?_
    refine jr_iload_n hX dX5_merchantFact_62 rfl ?_
    refine jr_iconst (v := 0) hX dX5_merchantFact_63 (by decide) ?_
    refine jr_ret (jr_runV hX hSt kM_X5_332 (c_X4_debtsOf (jj_fl hX) hly (by omega) hN hN2) rfl rfl (ly_kW hly (by first | assumption | omega)) ⟨_, _, rfl, by decide⟩ dX5_merchantFact_64 rfl ⟨jj_b1 rfl, jj_b1 rfl⟩ rfl) ?_
    exact jr_iret hX dX5_merchantFact_67 rfl rfl ⟨rfl, rfl, rfl, rfl, rfl, rfl⟩
  · refine jr_iload_n hX dX5_merchantFact_0 rfl ?_
    refine jr_tabIn (tgt := 68) hX dX5_merchantFact_1 (by decide) (by decide) rfl (by decide) ?_
    refine jr_aload_n hX dX5_merchantFact_68 rfl ?_
    refine jr_getr hX kF_X5_12 rfl (ly_kI hly) (ly_p5_0 hly) dX5_merchantFact_69 ?_
    refine jr_iload_n hX dX5_merchantFact_72 rfl ?_
    refine jr_iconst (v := 2) hX dX5_merchantFact_73 (by decide) ?_
    refine jr_ret (jr_runV hX hSt kM_X5_332 (c_X4_debtsOf (jj_fl hX) hly (by omega) hN hN2) rfl rfl (ly_kW hly (by first | assumption | omega)) ⟨_, _, rfl, by decide⟩ dX5_merchantFact_74 rfl ⟨jj_b1 rfl, jj_b1 rfl⟩ rfl) ?_
    exact jr_iret hX dX5_merchantFact_77 rfl rfl ⟨rfl, rfl, rfl, rfl, rfl, rfl⟩
  · refine jr_iload_n hX dX5_merchantFact_0 rfl ?_
    refine jr_tabIn (tgt := 78) hX dX5_merchantFact_1 (by decide) (by decide) rfl (by decide) ?_
    refine jr_aload_n hX dX5_merchantFact_78 rfl ?_
    refine jr_getr hX kF_X5_12 rfl (ly_kI hly) (ly_p5_0 hly) dX5_merchantFact_79 ?_
    refine jr_getr hX kF_X5_76 rfl (ly_kW hly (by first | assumption | omega)) (ly_p4_4 hly (by first | assumption | omega)) dX5_merchantFact_82 ?_
    refine jr_iload_n hX dX5_merchantFact_85 rfl ?_
    refine jr_aMs hX hly (by first | assumption | omega) (by first | with_reducible rfl | with_reducible assumption | rfl) (by first | assumption | omega) dX5_merchantFact_86 ?_
    refine jr_getr hX kF_X5_88 rfl (ly_kM hly (by first | assumption | omega) (by first | assumption | omega)) (ly_p2_1 hly (by first | assumption | omega) (by first | assumption | omega)) dX5_merchantFact_87 ?_
    refine jr_ret (jr_runS hX hSt kM_X5_335 (c_X5_sum (jj_fl hX) (ly_kMt hly (by omega) hm) (by omega)) rfl rfl dX5_merchantFact_90 rfl ⟨jj_b1 rfl, jj_b1 rfl⟩ rfl) ?_
    exact jr_iret hX dX5_merchantFact_93 rfl rfl ⟨rfl, rfl, rfl, rfl, rfl, rfl⟩
  · refine jr_iload_n hX dX5_merchantFact_0 rfl ?_
    refine jr_tabOut (tgt := 94) hX dX5_merchantFact_1 (by decide) (by decide) ?_
    refine jr_aload_n hX dX5_merchantFact_94 rfl ?_
    refine jr_getr hX kF_X5_12 rfl (ly_kI hly) (ly_p5_0 hly) dX5_merchantFact_95 ?_
    refine jr_iload_n hX dX5_merchantFact_98 rfl ?_
    refine jr_ret (jr_runV hX hSt kM_X5_339 (c_X4_cargoOf (jj_fl hX) hly (by omega) hB hB2) rfl rfl (ly_kW hly (by first | assumption | omega)) ⟨_, _, rfl, by decide⟩ dX5_merchantFact_99 rfl ⟨jj_b1 rfl, jj_b1 rfl⟩ rfl) ?_
    exact jr_iret hX dX5_merchantFact_102 rfl rfl ⟨rfl, rfl, rfl, rfl, rfl, rfl⟩
set_option maxHeartbeats 4000000 in
set_option maxRecDepth 100000 in
theorem c_boatFact {l : Launch} (hfl : l.stackTraces = false) {D : jj_D} {n : Nat} {K : jj_K} {I : jj_I} {P : jj_P} {G : jj_G} (hly : ly K P) {b t : Nat} (hb : b < 10) (ht : t < 12) :
    jj_Met l D yX5_boatFact (jj_ws yX5_boatFact cX5_boatFact 2 (some .int)) { frames := 2, cells := 0, slots := 0, locals := 42 } [.ref (aB 0 b), .int (nI t)] n K I P G (jj_R (some (.int (q_bf b I t))) (n) (K) (I) (P) (G)) jj_noX := by
  refine jj_of hfl (by decide +kernel) [some (.ref (aB 0 b)), some (.int (nI t))] rfl rfl ?_
  intro X hXl hX hSt
  have hlits : t = 0 ∨ t = 1 ∨ t = 2 ∨ t = 3 ∨ t = 4 ∨ t = 5 ∨ t = 6 ∨ t = 7 ∨ t = 8 ∨ t = 9 ∨ t = 10 ∨ t = 11 := by omega
  rcases hlits with rfl | rfl | rfl | rfl | rfl | rfl | rfl | rfl | rfl | rfl | rfl | rfl
  · refine jr_iload_n hX dX5_boatFact_0 rfl ?_
    refine jr_tabIn (tgt := 48) hX dX5_boatFact_1 (by decide) (by decide) rfl (by decide) ?_
    refine jr_aload_n hX dX5_boatFact_48 rfl ?_
    refine jr_geti hX kF_X5_126 rfl (ly_kB hly (by first | assumption | omega) (by first | assumption | omega)) dX5_boatFact_49 ?_
    exact jr_iret hX dX5_boatFact_52 rfl rfl ⟨rfl, rfl, rfl, rfl, rfl, rfl⟩
  · refine jr_iload_n hX dX5_boatFact_0 rfl ?_
    refine jr_tabIn (tgt := 53) hX dX5_boatFact_1 (by decide) (by decide) rfl (by decide) ?_
    refine jr_aload_n hX dX5_boatFact_53 rfl ?_
    refine jr_geti hX kF_X5_168 rfl (ly_kB hly (by first | assumption | omega) (by first | assumption | omega)) dX5_boatFact_54 ?_
    exact jr_iret hX dX5_boatFact_57 rfl rfl ⟨rfl, rfl, rfl, rfl, rfl, rfl⟩
  · refine jr_iload_n hX dX5_boatFact_0 rfl ?_
    refine jr_tabIn (tgt := 58) hX dX5_boatFact_1 (by decide) (by decide) rfl (by decide) ?_
    refine jr_aload_n hX dX5_boatFact_58 rfl ?_
    refine jr_geti hX kF_X5_141 rfl (ly_kB hly (by first | assumption | omega) (by first | assumption | omega)) dX5_boatFact_59 ?_
    exact jr_iret hX dX5_boatFact_62 rfl rfl ⟨rfl, rfl, rfl, rfl, rfl, rfl⟩
  · refine jr_iload_n hX dX5_boatFact_0 rfl ?_
    refine jr_tabIn (tgt := 63) hX dX5_boatFact_1 (by decide) (by decide) rfl (by decide) ?_
    refine jr_aload_n hX dX5_boatFact_63 rfl ?_
    refine jr_geti hX kF_X5_148 rfl (ly_kB hly (by first | assumption | omega) (by first | assumption | omega)) dX5_boatFact_64 ?_
    exact jr_iret hX dX5_boatFact_67 rfl rfl ⟨rfl, rfl, rfl, rfl, rfl, rfl⟩
  · refine jr_iload_n hX dX5_boatFact_0 rfl ?_
    refine jr_tabIn (tgt := 68) hX dX5_boatFact_1 (by decide) (by decide) rfl (by decide) ?_
    refine jr_aload_n hX dX5_boatFact_68 rfl ?_
    refine jr_geti hX kF_X5_129 rfl (ly_kB hly (by first | assumption | omega) (by first | assumption | omega)) dX5_boatFact_69 ?_
    exact jr_iret hX dX5_boatFact_72 rfl rfl ⟨rfl, rfl, rfl, rfl, rfl, rfl⟩
  · refine jr_iload_n hX dX5_boatFact_0 rfl ?_
    refine jr_tabIn (tgt := 73) hX dX5_boatFact_1 (by decide) (by decide) rfl (by decide) ?_
    refine jr_aload_n hX dX5_boatFact_73 rfl ?_
    refine jr_geti hX kF_X5_156 rfl (ly_kB hly (by first | assumption | omega) (by first | assumption | omega)) dX5_boatFact_74 ?_
    exact jr_iret hX dX5_boatFact_77 rfl rfl ⟨rfl, rfl, rfl, rfl, rfl, rfl⟩
  · refine jr_iload_n hX dX5_boatFact_0 rfl ?_
    refine jr_tabIn (tgt := 78) hX dX5_boatFact_1 (by decide) (by decide) rfl (by decide) ?_
    refine jr_aload_n hX dX5_boatFact_78 rfl ?_
    refine jr_geti hX kF_X5_159 rfl (ly_kB hly (by first | assumption | omega) (by first | assumption | omega)) dX5_boatFact_79 ?_
    exact jr_iret hX dX5_boatFact_82 rfl rfl ⟨rfl, rfl, rfl, rfl, rfl, rfl⟩
  · refine jr_iload_n hX dX5_boatFact_0 rfl ?_
    refine jr_tabIn (tgt := 83) hX dX5_boatFact_1 (by decide) (by decide) rfl (by decide) ?_
    refine jr_aload_n hX dX5_boatFact_83 rfl ?_
    refine jr_ret (jr_runV hX hSt kM_X5_144 (c_X0_allCargo (jj_fl hX) hly (by omega) hb) rfl rfl (ly_kB hly (by first | assumption | omega) (by first | assumption | omega)) ⟨_, _, rfl, by decide⟩ dX5_boatFact_84 rfl ⟨jj_b1 rfl, jj_b1 rfl⟩ rfl) ?_
    exact jr_iret hX dX5_boatFact_87 rfl rfl ⟨rfl, rfl, rfl, rfl, rfl, rfl⟩
  · refine jr_iload_n hX dX5_boatFact_0 rfl ?_
    refine jr_tabOut (tgt := 88) hX dX5_boatFact_1 (by decide) (by decide) ?_
    refine jr_aload_n hX dX5_boatFact_88 rfl ?_
    refine jr_getr hX kF_X5_132 rfl (ly_kB hly (by first | assumption | omega) (by first | assumption | omega)) (ly_p0_8 hly (by first | assumption | omega) (by first | assumption | omega)) dX5_boatFact_89 ?_
    refine jr_iload_n hX dX5_boatFact_92 rfl ?_
    refine jr_bipush (v := 8) hX dX5_boatFact_93 (by decide) ?_
    refine jr_isub hX dX5_boatFact_95 ?_
    refine jr_iald hX (by first | with_reducible assumption | with_reducible exact ly_kWm hly (by first | assumption | omega) | with_reducible exact ly_kLd hly (by first | assumption | omega) | with_reducible exact ly_kIc hly (by first | assumption | omega) | with_reducible exact ly_kBe hly (by first | assumption | omega) | with_reducible exact ly_kPr hly (by first | assumption | omega) | with_reducible exact ly_kMt hly (by first | assumption | omega) (by first | assumption | omega) | with_reducible exact ly_kBc hly (by first | assumption | omega) (by first | assumption | omega) | with_reducible exact ly_kAh hly (by first | assumption | omega)) (show _ = nI _ from by first | exact (by decide : nI 8 - 8 = nI 0) | exact (by decide : nI 9 - 8 = nI 1) | exact (by decide : nI 10 - 8 = nI 2) | exact (by decide : nI 11 - 8 = nI 3)) (by omega) dX5_boatFact_96 ?_
    exact jr_iret hX dX5_boatFact_97 rfl rfl ⟨rfl, rfl, rfl, rfl, rfl, rfl⟩
  · refine jr_iload_n hX dX5_boatFact_0 rfl ?_
    refine jr_tabOut (tgt := 88) hX dX5_boatFact_1 (by decide) (by decide) ?_
    refine jr_aload_n hX dX5_boatFact_88 rfl ?_
    refine jr_getr hX kF_X5_132 rfl (ly_kB hly (by first | assumption | omega) (by first | assumption | omega)) (ly_p0_8 hly (by first | assumption | omega) (by first | assumption | omega)) dX5_boatFact_89 ?_
    refine jr_iload_n hX dX5_boatFact_92 rfl ?_
    refine jr_bipush (v := 8) hX dX5_boatFact_93 (by decide) ?_
    refine jr_isub hX dX5_boatFact_95 ?_
    refine jr_iald hX (by first | with_reducible assumption | with_reducible exact ly_kWm hly (by first | assumption | omega) | with_reducible exact ly_kLd hly (by first | assumption | omega) | with_reducible exact ly_kIc hly (by first | assumption | omega) | with_reducible exact ly_kBe hly (by first | assumption | omega) | with_reducible exact ly_kPr hly (by first | assumption | omega) | with_reducible exact ly_kMt hly (by first | assumption | omega) (by first | assumption | omega) | with_reducible exact ly_kBc hly (by first | assumption | omega) (by first | assumption | omega) | with_reducible exact ly_kAh hly (by first | assumption | omega)) (show _ = nI _ from by first | exact (by decide : nI 8 - 8 = nI 0) | exact (by decide : nI 9 - 8 = nI 1) | exact (by decide : nI 10 - 8 = nI 2) | exact (by decide : nI 11 - 8 = nI 3)) (by omega) dX5_boatFact_96 ?_
    exact jr_iret hX dX5_boatFact_97 rfl rfl ⟨rfl, rfl, rfl, rfl, rfl, rfl⟩
  · refine jr_iload_n hX dX5_boatFact_0 rfl ?_
    refine jr_tabOut (tgt := 88) hX dX5_boatFact_1 (by decide) (by decide) ?_
    refine jr_aload_n hX dX5_boatFact_88 rfl ?_
    refine jr_getr hX kF_X5_132 rfl (ly_kB hly (by first | assumption | omega) (by first | assumption | omega)) (ly_p0_8 hly (by first | assumption | omega) (by first | assumption | omega)) dX5_boatFact_89 ?_
    refine jr_iload_n hX dX5_boatFact_92 rfl ?_
    refine jr_bipush (v := 8) hX dX5_boatFact_93 (by decide) ?_
    refine jr_isub hX dX5_boatFact_95 ?_
    refine jr_iald hX (by first | with_reducible assumption | with_reducible exact ly_kWm hly (by first | assumption | omega) | with_reducible exact ly_kLd hly (by first | assumption | omega) | with_reducible exact ly_kIc hly (by first | assumption | omega) | with_reducible exact ly_kBe hly (by first | assumption | omega) | with_reducible exact ly_kPr hly (by first | assumption | omega) | with_reducible exact ly_kMt hly (by first | assumption | omega) (by first | assumption | omega) | with_reducible exact ly_kBc hly (by first | assumption | omega) (by first | assumption | omega) | with_reducible exact ly_kAh hly (by first | assumption | omega)) (show _ = nI _ from by first | exact (by decide : nI 8 - 8 = nI 0) | exact (by decide : nI 9 - 8 = nI 1) | exact (by decide : nI 10 - 8 = nI 2) | exact (by decide : nI 11 - 8 = nI 3)) (by omega) dX5_boatFact_96 ?_
    exact jr_iret hX dX5_boatFact_97 rfl rfl ⟨rfl, rfl, rfl, rfl, rfl, rfl⟩
  · refine jr_iload_n hX dX5_boatFact_0 rfl ?_
    refine jr_tabOut (tgt := 88) hX dX5_boatFact_1 (by decide) (by decide) ?_
    refine jr_aload_n hX dX5_boatFact_88 rfl ?_
    refine jr_getr hX kF_X5_132 rfl (ly_kB hly (by first | assumption | omega) (by first | assumption | omega)) (ly_p0_8 hly (by first | assumption | omega) (by first | assumption | omega)) dX5_boatFact_89 ?_
    refine jr_iload_n hX dX5_boatFact_92 rfl ?_
    refine jr_bipush (v := 8) hX dX5_boatFact_93 (by decide) ?_
    refine jr_isub hX dX5_boatFact_95 ?_
    refine jr_iald hX (by first | with_reducible assumption | with_reducible exact ly_kWm hly (by first | assumption | omega) | with_reducible exact ly_kLd hly (by first | assumption | omega) | with_reducible exact ly_kIc hly (by first | assumption | omega) | with_reducible exact ly_kBe hly (by first | assumption | omega) | with_reducible exact ly_kPr hly (by first | assumption | omega) | with_reducible exact ly_kMt hly (by first | assumption | omega) (by first | assumption | omega) | with_reducible exact ly_kBc hly (by first | assumption | omega) (by first | assumption | omega) | with_reducible exact ly_kAh hly (by first | assumption | omega)) (show _ = nI _ from by first | exact (by decide : nI 8 - 8 = nI 0) | exact (by decide : nI 9 - 8 = nI 1) | exact (by decide : nI 10 - 8 = nI 2) | exact (by decide : nI 11 - 8 = nI 3)) (by omega) dX5_boatFact_96 ?_
    exact jr_iret hX dX5_boatFact_97 rfl rfl ⟨rfl, rfl, rfl, rfl, rfl, rfl⟩
set_option maxHeartbeats 4000000 in
set_option maxRecDepth 100000 in
theorem c_debtFact {l : Launch} (hfl : l.stackTraces = false) {D : jj_D} {n : Nat} {K : jj_K} {I : jj_I} {P : jj_P} {G : jj_G} (hly : ly K P) {k t : Nat} (hk : k < 30) (ht : t < 7) :
    jj_Met l D yX5_debtFact (jj_ws yX5_debtFact cX5_debtFact 2 (some .int)) { frames := 0, cells := 0, slots := 0, locals := 0 } [.ref (aD 0 k), .int (nI t)] n K I P G (jj_R (some (.int (I (aD 0 k) t))) (n) (K) (I) (P) (G)) jj_noX := by
  refine jj_of hfl (by decide +kernel) [some (.ref (aD 0 k)), some (.int (nI t))] rfl rfl ?_
  intro X hXl hX hSt
  have hlits : t = 0 ∨ t = 1 ∨ t = 2 ∨ t = 3 ∨ t = 4 ∨ t = 5 ∨ t = 6 := by omega
  rcases hlits with rfl | rfl | rfl | rfl | rfl | rfl | rfl
  · refine jr_iload_n hX dX5_debtFact_0 rfl ?_
    refine jr_tabIn (tgt := 40) hX dX5_debtFact_1 (by decide) (by decide) rfl (by decide) ?_
    refine jr_aload_n hX dX5_debtFact_40 rfl ?_
    refine jr_geti hX kF_X5_214 rfl (ly_kD hly (by first | assumption | omega) (by first | assumption | omega)) dX5_debtFact_41 ?_
    exact jr_iret hX dX5_debtFact_44 rfl rfl ⟨rfl, rfl, rfl, rfl, rfl, rfl⟩
  · refine jr_iload_n hX dX5_debtFact_0 rfl ?_
    refine jr_tabIn (tgt := 45) hX dX5_debtFact_1 (by decide) (by decide) rfl (by decide) ?_
    refine jr_aload_n hX dX5_debtFact_45 rfl ?_
    refine jr_geti hX kF_X5_208 rfl (ly_kD hly (by first | assumption | omega) (by first | assumption | omega)) dX5_debtFact_46 ?_
    exact jr_iret hX dX5_debtFact_49 rfl rfl ⟨rfl, rfl, rfl, rfl, rfl, rfl⟩
  · refine jr_iload_n hX dX5_debtFact_0 rfl ?_
    refine jr_tabIn (tgt := 50) hX dX5_debtFact_1 (by decide) (by decide) rfl (by decide) ?_
    refine jr_aload_n hX dX5_debtFact_50 rfl ?_
    refine jr_geti hX kF_X5_342 rfl (ly_kD hly (by first | assumption | omega) (by first | assumption | omega)) dX5_debtFact_51 ?_
    exact jr_iret hX dX5_debtFact_54 rfl rfl ⟨rfl, rfl, rfl, rfl, rfl, rfl⟩
  · refine jr_iload_n hX dX5_debtFact_0 rfl ?_
    refine jr_tabIn (tgt := 55) hX dX5_debtFact_1 (by decide) (by decide) rfl (by decide) ?_
    refine jr_aload_n hX dX5_debtFact_55 rfl ?_
    refine jr_geti hX kF_X5_205 rfl (ly_kD hly (by first | assumption | omega) (by first | assumption | omega)) dX5_debtFact_56 ?_
    exact jr_iret hX dX5_debtFact_59 rfl rfl ⟨rfl, rfl, rfl, rfl, rfl, rfl⟩
  · refine jr_iload_n hX dX5_debtFact_0 rfl ?_
    refine jr_tabIn (tgt := 60) hX dX5_debtFact_1 (by decide) (by decide) rfl (by decide) ?_
    refine jr_aload_n hX dX5_debtFact_60 rfl ?_
    refine jr_geti hX kF_X5_211 rfl (ly_kD hly (by first | assumption | omega) (by first | assumption | omega)) dX5_debtFact_61 ?_
    exact jr_iret hX dX5_debtFact_64 rfl rfl ⟨rfl, rfl, rfl, rfl, rfl, rfl⟩
  · refine jr_iload_n hX dX5_debtFact_0 rfl ?_
    refine jr_tabIn (tgt := 65) hX dX5_debtFact_1 (by decide) (by decide) rfl (by decide) ?_
    refine jr_aload_n hX dX5_debtFact_65 rfl ?_
    refine jr_geti hX kF_X5_343 rfl (ly_kD hly (by first | assumption | omega) (by first | assumption | omega)) dX5_debtFact_66 ?_
    exact jr_iret hX dX5_debtFact_69 rfl rfl ⟨rfl, rfl, rfl, rfl, rfl, rfl⟩
  · refine jr_iload_n hX dX5_debtFact_0 rfl ?_
    refine jr_tabOut (tgt := 70) hX dX5_debtFact_1 (by decide) (by decide) ?_
    refine jr_aload_n hX dX5_debtFact_70 rfl ?_
    refine jr_geti hX kF_X5_200 rfl (ly_kD hly (by first | assumption | omega) (by first | assumption | omega)) dX5_debtFact_71 ?_
    exact jr_iret hX dX5_debtFact_74 rfl rfl ⟨rfl, rfl, rfl, rfl, rfl, rfl⟩
set_option maxHeartbeats 4000000 in
set_option maxRecDepth 100000 in
theorem c_countFact {l : Launch} (hfl : l.stackTraces = false) {D : jj_D} {n : Nat} {K : jj_K} {I : jj_I} {P : jj_P} {G : jj_G} (hly : ly K P) {H M B N : Nat} {t : Nat} (hs : sf 0 H M B N I) (ht : t < 10) :
    jj_Met l D yX5_countFact (jj_ws yX5_countFact cX5_countFact 2 (some .int)) { frames := 3, cells := 0, slots := 0, locals := 63 } [.ref 1, .int (nI t)] n K I P G (jj_R (some (.int (q_cf H M B N I t))) (n) (K) (I) (P) (G)) jj_noX := by
  refine jj_of hfl (by decide +kernel) [some (.ref 1), some (.int (nI t))] rfl rfl ?_
  intro X hXl hX hSt
  have hH := hs.1.1
  have hH2 := hs.1.2
  have hM := hs.2.1.1
  have hM2 := hs.2.1.2
  have hB := hs.2.2.1.1
  have hB2 := hs.2.2.1.2
  have hN := hs.2.2.2.1.1
  have hN2 := hs.2.2.2.1.2
  have hlits : t = 0 ∨ t = 1 ∨ t = 2 ∨ t = 3 ∨ t = 4 ∨ t = 5 ∨ t = 6 ∨ t = 7 ∨ t = 8 ∨ t = 9 := by omega
  rcases hlits with rfl | rfl | rfl | rfl | rfl | rfl | rfl | rfl | rfl | rfl
  · refine jr_iload_n hX dX5_countFact_0 rfl ?_
    refine jr_tabIn (tgt := 52) hX dX5_countFact_1 (by decide) (by decide) rfl (by decide) ?_
    refine jr_aload_n hX dX5_countFact_52 rfl ?_
    refine jr_getr hX kF_X5_20 rfl (ly_kI hly) (ly_p5_1 hly) dX5_countFact_53 ?_
    refine jr_geti hX kF_X5_180 rfl (ly_kR hly (by first | assumption | omega)) dX5_countFact_56 ?_
    exact jr_iret hX dX5_countFact_59 rfl rfl ⟨rfl, rfl, rfl, rfl, rfl, rfl⟩
  · refine jr_iload_n hX dX5_countFact_0 rfl ?_
    refine jr_tabIn (tgt := 60) hX dX5_countFact_1 (by decide) (by decide) rfl (by decide) ?_
    refine jr_aload_n hX dX5_countFact_60 rfl ?_
    refine jr_getr hX kF_X5_20 rfl (ly_kI hly) (ly_p5_1 hly) dX5_countFact_61 ?_
    refine jr_geti hX kF_X5_43 rfl (ly_kR hly (by first | assumption | omega)) dX5_countFact_64 ?_
    exact jr_iret hX dX5_countFact_67 rfl rfl ⟨rfl, rfl, rfl, rfl, rfl, rfl⟩
  · refine jr_iload_n hX dX5_countFact_0 rfl ?_
    refine jr_tabIn (tgt := 68) hX dX5_countFact_1 (by decide) (by decide) rfl (by decide) ?_
    refine jr_aload_n hX dX5_countFact_68 rfl ?_
    refine jr_getr hX kF_X5_12 rfl (ly_kI hly) (ly_p5_0 hly) dX5_countFact_69 ?_
    refine jr_geti hX kF_X5_73 rfl (ly_kW hly (by first | assumption | omega)) dX5_countFact_72 ?_
    exact jr_iret hX dX5_countFact_75 rfl rfl ⟨rfl, rfl, rfl, rfl, rfl, rfl⟩
  · refine jr_iload_n hX dX5_countFact_0 rfl ?_
    refine jr_tabIn (tgt := 76) hX dX5_countFact_1 (by decide) (by decide) rfl (by decide) ?_
    refine jr_aload_n hX dX5_countFact_76 rfl ?_
    refine jr_getr hX kF_X5_12 rfl (ly_kI hly) (ly_p5_0 hly) dX5_countFact_77 ?_
    refine jr_geti hX kF_X5_100 rfl (ly_kW hly (by first | assumption | omega)) dX5_countFact_80 ?_
    exact jr_iret hX dX5_countFact_83 rfl rfl ⟨rfl, rfl, rfl, rfl, rfl, rfl⟩
  · refine jr_iload_n hX dX5_countFact_0 rfl ?_
    refine jr_tabIn (tgt := 84) hX dX5_countFact_1 (by decide) (by decide) rfl (by decide) ?_
    refine jr_aload_n hX dX5_countFact_84 rfl ?_
    refine jr_getr hX kF_X5_12 rfl (ly_kI hly) (ly_p5_0 hly) dX5_countFact_85 ?_
    refine jr_iconst (v := 3) hX dX5_countFact_88 (by decide) ?_
    refine jr_ret (jr_runV hX hSt kM_X5_221 (c_X4_boatsIn (jj_fl hX) hly (by omega) hB hB2) rfl rfl (ly_kW hly (by first | assumption | omega)) ⟨_, _, rfl, by decide⟩ dX5_countFact_89 rfl ⟨jj_b1 rfl, jj_b1 rfl⟩ rfl) ?_
    exact jr_iret hX dX5_countFact_92 rfl rfl ⟨rfl, rfl, rfl, rfl, rfl, rfl⟩
  · refine jr_iload_n hX dX5_countFact_0 rfl ?_
    refine jr_tabIn (tgt := 93) hX dX5_countFact_1 (by decide) (by decide) rfl (by decide) ?_
    refine jr_aload_n hX dX5_countFact_93 rfl ?_
    refine jr_getr hX kF_X5_12 rfl (ly_kI hly) (ly_p5_0 hly) dX5_countFact_94 ?_
    refine jr_iconst (v := 2) hX dX5_countFact_97 (by decide) ?_
    refine jr_ret (jr_runV hX hSt kM_X5_221 (c_X4_boatsIn (jj_fl hX) hly (by omega) hB hB2) rfl rfl (ly_kW hly (by first | assumption | omega)) ⟨_, _, rfl, by decide⟩ dX5_countFact_98 rfl ⟨jj_b1 rfl, jj_b1 rfl⟩ rfl) ?_
    exact jr_iret hX dX5_countFact_101 rfl rfl ⟨rfl, rfl, rfl, rfl, rfl, rfl⟩
  · refine jr_iload_n hX dX5_countFact_0 rfl ?_
    refine jr_tabIn (tgt := 102) hX dX5_countFact_1 (by decide) (by decide) rfl (by decide) ?_
    refine jr_aload_n hX dX5_countFact_102 rfl ?_
    refine jr_getr hX kF_X5_12 rfl (ly_kI hly) (ly_p5_0 hly) dX5_countFact_103 ?_
    refine jr_geti hX kF_X5_183 rfl (ly_kW hly (by first | assumption | omega)) dX5_countFact_106 ?_
    exact jr_iret hX dX5_countFact_109 rfl rfl ⟨rfl, rfl, rfl, rfl, rfl, rfl⟩
  · refine jr_iload_n hX dX5_countFact_0 rfl ?_
    refine jr_tabIn (tgt := 110) hX dX5_countFact_1 (by decide) (by decide) rfl (by decide) ?_
    refine jr_aload_n hX dX5_countFact_110 rfl ?_
    refine jr_getr hX kF_X5_12 rfl (ly_kI hly) (ly_p5_0 hly) dX5_countFact_111 ?_
    refine jr_ret (jr_runV hX hSt kM_X5_301 (c_X4_openDebts (jj_fl hX) hly (by omega) hM hM2 hN hN2) rfl rfl (ly_kW hly (by first | assumption | omega)) ⟨_, _, rfl, by decide⟩ dX5_countFact_114 rfl ⟨jj_b1 rfl, jj_b1 rfl⟩ rfl) ?_
    exact jr_iret hX dX5_countFact_117 rfl rfl ⟨rfl, rfl, rfl, rfl, rfl, rfl⟩
  · refine jr_iload_n hX dX5_countFact_0 rfl ?_
    refine jr_tabIn (tgt := 118) hX dX5_countFact_1 (by decide) (by decide) rfl (by decide) ?_
    refine jr_aload_n hX dX5_countFact_118 rfl ?_
    refine jr_getr hX kF_X5_12 rfl (ly_kI hly) (ly_p5_0 hly) dX5_countFact_119 ?_
    refine jr_ret (jr_runV hX hSt kM_X5_304 (c_X4_allCoins (jj_fl hX) hly (by omega) hM hM2) rfl rfl (ly_kW hly (by first | assumption | omega)) ⟨_, _, rfl, by decide⟩ dX5_countFact_122 rfl ⟨jj_b1 rfl, jj_b1 rfl⟩ rfl) ?_
    exact jr_iret hX dX5_countFact_125 rfl rfl ⟨rfl, rfl, rfl, rfl, rfl, rfl⟩
  · refine jr_iload_n hX dX5_countFact_0 rfl ?_
    refine jr_tabOut (tgt := 126) hX dX5_countFact_1 (by decide) (by decide) ?_
    refine jr_aload_n hX dX5_countFact_126 rfl ?_
    refine jr_getr hX kF_X5_20 rfl (ly_kI hly) (ly_p5_1 hly) dX5_countFact_127 ?_
    refine jr_ret (jr_runV hX hSt kM_X5_307 (c_X3_openLegs (jj_fl hX) hly (by omega) hH hH2) rfl rfl (ly_kR hly (by first | assumption | omega)) ⟨_, _, rfl, by decide⟩ dX5_countFact_130 rfl ⟨jj_b1 rfl, jj_b1 rfl⟩ rfl) ?_
    exact jr_iret hX dX5_countFact_133 rfl rfl ⟨rfl, rfl, rfl, rfl, rfl, rfl⟩
