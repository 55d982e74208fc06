/-! load, the mean, all in one number -/
theorem jm_y0 {y : Int32} (h : y < -60 ∨ 60 < y) : ¬ y = 0 := fun e => by
  subst e
  rcases h with h | h <;> exact absurd h (by decide)
theorem jm_neg {y : Int32} : -y = 0 - y := (Int32.zero_sub y).symm
theorem jm_l6 {s c y : Int32} (h0 : ¬ y = 0) (h : (if 0 < y then s else c) < (if 0 ≤ y then y else 0 - y)) (n : ¬ s < y) : c < -y := by
  by_cases p : 0 < y
  · rw [if_pos p, if_pos (Int32.le_of_lt p)] at h
    exact absurd h n
  · have q : ¬ 0 ≤ y := fun e => h0 (Int32.le_antisymm (Int32.not_lt.mp p) e)
    rw [if_neg p, if_neg q] at h
    rw [jm_neg]
    exact h
theorem jm_l1 {s c y : Int32} (hs : 0 ≤ s) (h : (if 0 ≤ y then y else 0 - y) ≤ (if 0 < y then s else c)) : ¬ s < y := by
  by_cases p : 0 < y
  · rw [if_pos p, if_pos (Int32.le_of_lt p)] at h
    exact Int32.not_lt.mpr h
  · exact Int32.not_lt.mpr (Int32.le_trans (Int32.not_lt.mp p) hs)
theorem jm_l2 {s c y : Int32} (h0 : ¬ y = 0) (hy : -60 ≤ y ∧ y ≤ 60) (hc : 0 ≤ c) (h : (if 0 ≤ y then y else 0 - y) ≤ (if 0 < y then s else c)) : ¬ c < -y := by
  by_cases p : 0 < y
  · refine Int32.not_lt.mpr (Int32.le_trans ?_ hc)
    obtain ⟨y1, y2⟩ := hy
    rw [Int32.le_iff_toInt_le] at y1 y2 ⊢
    rw [Int32.lt_iff_toInt_lt] at p
    rw [jm_neg, Int32.toInt_sub]
    have z0 : (0 : Int32).toInt = 0 := rfl
    have z1 : (-60 : Int32).toInt = -60 := rfl
    have z2 : (60 : Int32).toInt = 60 := rfl
    rw [z0] at p ⊢
    rw [z1] at y1
    rw [z2] at y2
    rw [Int.bmod_eq_of_le (by omega) (by omega)]
    omega
  · have q : ¬ 0 ≤ y := fun e => h0 (Int32.le_antisymm (Int32.not_lt.mp p) e)
    rw [if_neg p, if_neg q] at h
    rw [jm_neg]
    exact Int32.not_lt.mpr h
theorem jm_l3 {s r : Nat} {y : Int32} (hs : s ≤ r) (hr : r ≤ 60) (hy : -60 ≤ y ∧ y ≤ 60) : nI s + y ≤ nI r ↔ y ≤ nI r - nI s := by
  obtain ⟨y1, y2⟩ := hy
  rw [Int32.le_iff_toInt_le] at y1 y2 ⊢
  rw [Int32.le_iff_toInt_le, Int32.toInt_sub, Int32.toInt_add, nI_toInt (by omega), nI_toInt (by omega)]
  have z1 : (-60 : Int32).toInt = -60 := rfl
  have z2 : (60 : Int32).toInt = 60 := rfl
  rw [z1] at y1
  rw [z2] at y2
  rw [Int.bmod_eq_of_le (by omega) (by omega), Int.bmod_eq_of_le (by omega) (by omega)]
  omega
theorem fload_eq {C : jj_I} {b g o h0 : Nat} {y : Int32} (eo : C (aB 0 b) 0 = nI o) (eh : C (aB 0 b) 4 = nI h0) (ho : o < 5) (hb : b < 10) (hh : h0 < 8) : f_load b g y C = jj_u (jj_u C (aMt 0 o) (4 * h0 + g) (C (aMt 0 o) (4 * h0 + g) - y)) (aBc 0 b) g (C (aBc 0 b) g + y) := by
  unfold f_load
  try dsimp only
  rw [eo, eh, nv_nI (by omega), nv_nI (by omega), jj_u_ne (show aBc 0 b ≠ aMt 0 o by simp only [aBc, aMt]; omega), show h0 * 4 + g = 4 * h0 + g by omega]
set_option maxHeartbeats 4000000 in
set_option maxRecDepth 100000 in
theorem m_load_x1 {l : Launch} (hfl : l.stackTraces = false) {D : jj_D} {n : Nat} {K : jj_K} {I : jj_I} {P : jj_P} {G : jj_G} (hly : ly K P) {H M B N : Nat} {C : jj_I} {b : Int32} {g : Int32} {y : Int32} (hs : sf 0 H M B N C) (hk : sk 0 H M B N C) (hm : ml 0 H M B N C I) (hz : mz M C I) (h_b : b < 0 ∨ nI B ≤ b) :
    jj_Met l D yX6_load (jj_ws yX6_load cX6_load 5 (some .int)) { frames := 2, cells := 0, slots := 0, locals := 45 } [.ref 150, .int b, .int g, .int y] n K I P G (jj_R (some (.int 0)) (n) (K) (jj_u (jj_u I 150 0 0) 150 0 1) (P) (G)) jj_noX := by
  refine jj_of hfl (by decide +kernel) [some (.ref 150), some (.int b), some (.int g), some (.int y), none] rfl rfl ?_
  intro X hXl hX hSt
  have z := sf_Z hs
  have hm0 : ml 0 H M B N C (jj_u I 150 0 0) := ml_th hm z
  have hz0 : mz M C (jj_u I 150 0 0) := mz_th hz
  have hH0 := hm0.1.1
  have hM0 := hm0.1.2.1
  have hB0 := hm0.1.2.2.1
  have hN0 := hm0.1.2.2.2
  have hH2 := hs.1.2
  have hM2 := z.1
  have hB2 := z.2.1
  have hN2 := z.2.2
  refine jr_aload_n hX dX6_load_0 rfl ?_
  refine jr_iconst (v := 0) hX dX6_load_1 (by decide) ?_
  refine jr_puti hX kF_X6_40 rfl (ly_kMo hly) (by decide) dX6_load_2 ?_
  refine jr_aload_n hX dX6_load_5 rfl ?_
  refine jr_iload_n hX dX6_load_6 rfl ?_
  refine jr_ret (jr_runV hX hSt kM_X6_121 (c_isBoat_x (jj_fl hX) hly h_b hB0 (by omega)) rfl rfl (ly_kMo hly) ⟨_, _, rfl, by decide⟩ dX6_load_7 rfl ⟨jj_b1 rfl, jj_b1 rfl⟩ rfl) ?_
  refine jr_if_eq (tgt := 20) hX dX6_load_10 (by decide) (fun c_10 => ?_) (fun c_10 => absurd rfl c_10)
  refine jr_aload_n hX dX6_load_20 rfl ?_
  refine jr_iconst (v := 1) hX dX6_load_21 (by decide) ?_
  refine jr_ret (jr_runV hX hSt kM_X6_57 (c_fail (jj_fl hX) hly) rfl rfl (ly_kMo hly) ⟨_, _, rfl, by decide⟩ dX6_load_22 rfl ⟨jj_b1 rfl, jj_b1 rfl⟩ rfl) ?_
  exact jr_iret hX dX6_load_25 rfl rfl ⟨rfl, rfl, rfl, rfl, rfl, rfl⟩
set_option maxHeartbeats 4000000 in
set_option maxRecDepth 100000 in
theorem m_load_x2 {l : Launch} (hfl : l.stackTraces = false) {D : jj_D} {n : Nat} {K : jj_K} {I : jj_I} {P : jj_P} {G : jj_G} (hly : ly K P) {H M B N : Nat} {C : jj_I} {b : Nat} {g : Int32} {y : Int32} (hs : sf 0 H M B N C) (hk : sk 0 H M B N C) (hm : ml 0 H M B N C I) (hz : mz M C I) (h_b : b < B) (h_g : g < 0 ∨ nI 4 ≤ g) :
    jj_Met l D yX6_load (jj_ws yX6_load cX6_load 5 (some .int)) { frames := 2, cells := 0, slots := 0, locals := 45 } [.ref 150, .int (nI b), .int g, .int y] n K I P G (jj_R (some (.int 0)) (n) (K) (jj_u (jj_u I 150 0 0) 150 0 1) (P) (G)) jj_noX := by
  refine jj_of hfl (by decide +kernel) [some (.ref 150), some (.int (nI b)), some (.int g), some (.int y), none] rfl rfl ?_
  intro X hXl hX hSt
  have z := sf_Z hs
  have hm0 : ml 0 H M B N C (jj_u I 150 0 0) := ml_th hm z
  have hz0 : mz M C (jj_u I 150 0 0) := mz_th hz
  have hH0 := hm0.1.1
  have hM0 := hm0.1.2.1
  have hB0 := hm0.1.2.2.1
  have hN0 := hm0.1.2.2.2
  have hH2 := hs.1.2
  have hM2 := z.1
  have hB2 := z.2.1
  have hN2 := z.2.2
  refine jr_aload_n hX dX6_load_0 rfl ?_
  refine jr_iconst (v := 0) hX dX6_load_1 (by decide) ?_
  refine jr_puti hX kF_X6_40 rfl (ly_kMo hly) (by decide) dX6_load_2 ?_
  refine jr_aload_n hX dX6_load_5 rfl ?_
  refine jr_iload_n hX dX6_load_6 rfl ?_
  refine jr_ret (jr_runV hX hSt kM_X6_121 (c_isBoat_ok (jj_fl hX) hly h_b hB0 (by omega)) rfl rfl (ly_kMo hly) ⟨_, _, rfl, by decide⟩ dX6_load_7 rfl ⟨jj_b1 rfl, jj_b1 rfl⟩ rfl) ?_
  refine jr_if_eq (tgt := 20) hX dX6_load_10 (by decide) (fun c_10 => absurd c_10 (by decide)) (fun c_10 => ?_)
  refine jr_iload_n hX dX6_load_13 rfl ?_
  refine jr_ret (jr_runS hX hSt kM_X6_65 (c_isGood_x (jj_fl hX) h_g) rfl rfl dX6_load_14 rfl ⟨jj_b1 rfl, jj_b1 rfl⟩ rfl) ?_
  refine jr_if_ne (tgt := 26) hX dX6_load_17 (by decide) (fun c_17 => absurd rfl c_17) (fun c_17 => ?_)
  refine jr_aload_n hX dX6_load_20 rfl ?_
  refine jr_iconst (v := 1) hX dX6_load_21 (by decide) ?_
  refine jr_ret (jr_runV hX hSt kM_X6_57 (c_fail (jj_fl hX) hly) rfl rfl (ly_kMo hly) ⟨_, _, rfl, by decide⟩ dX6_load_22 rfl ⟨jj_b1 rfl, jj_b1 rfl⟩ rfl) ?_
  exact jr_iret hX dX6_load_25 rfl rfl ⟨rfl, rfl, rfl, rfl, rfl, rfl⟩
set_option maxHeartbeats 4000000 in
set_option maxRecDepth 100000 in
theorem m_load_x3 {l : Launch} (hfl : l.stackTraces = false) {D : jj_D} {n : Nat} {K : jj_K} {I : jj_I} {P : jj_P} {G : jj_G} (hly : ly K P) {H M B N : Nat} {C : jj_I} {b : Nat} {g : Nat} {y : Int32} (hs : sf 0 H M B N C) (hk : sk 0 H M B N C) (hm : ml 0 H M B N C I) (hz : mz M C I) (h_b : b < B) (h_g : g < 4) (h_y : y < -60 ∨ 60 < y) :
    jj_Met l D yX6_load (jj_ws yX6_load cX6_load 5 (some .int)) { frames := 2, cells := 0, slots := 0, locals := 45 } [.ref 150, .int (nI b), .int (nI g), .int y] n K I P G (jj_R (some (.int 0)) (n) (K) (jj_u (jj_u I 150 0 0) 150 0 2) (P) (G)) jj_noX := by
  refine jj_of hfl (by decide +kernel) [some (.ref 150), some (.int (nI b)), some (.int (nI g)), some (.int y), none] rfl rfl ?_
  intro X hXl hX hSt
  have z := sf_Z hs
  have hm0 : ml 0 H M B N C (jj_u I 150 0 0) := ml_th hm z
  have hz0 : mz M C (jj_u I 150 0 0) := mz_th hz
  have hH0 := hm0.1.1
  have hM0 := hm0.1.2.1
  have hB0 := hm0.1.2.2.1
  have hN0 := hm0.1.2.2.2
  have hH2 := hs.1.2
  have hM2 := z.1
  have hB2 := z.2.1
  have hN2 := z.2.2
  refine jr_aload_n hX dX6_load_0 rfl ?_
  refine jr_iconst (v := 0) hX dX6_load_1 (by decide) ?_
  refine jr_puti hX kF_X6_40 rfl (ly_kMo hly) (by decide) dX6_load_2 ?_
  refine jr_aload_n hX dX6_load_5 rfl ?_
  refine jr_iload_n hX dX6_load_6 rfl ?_
  refine jr_ret (jr_runV hX hSt kM_X6_121 (c_isBoat_ok (jj_fl hX) hly h_b hB0 (by omega)) rfl rfl (ly_kMo hly) ⟨_, _, rfl, by decide⟩ dX6_load_7 rfl ⟨jj_b1 rfl, jj_b1 rfl⟩ rfl) ?_
  refine jr_if_eq (tgt := 20) hX dX6_load_10 (by decide) (fun c_10 => absurd c_10 (by decide)) (fun c_10 => ?_)
  refine jr_iload_n hX dX6_load_13 rfl ?_
  refine jr_ret (jr_runS hX hSt kM_X6_65 (c_isGood_ok (jj_fl hX) h_g) rfl rfl dX6_load_14 rfl ⟨jj_b1 rfl, jj_b1 rfl⟩ rfl) ?_
  refine jr_if_ne (tgt := 26) hX dX6_load_17 (by decide) (fun c_17 => ?_) (fun c_17 => absurd c_17 (by decide))
  refine jr_iload_n hX dX6_load_26 rfl ?_
  refine jr_if_eq (tgt := 41) hX dX6_load_27 (by decide) (fun c_27 => absurd c_27 (jm_y0 h_y)) (fun c_27 => ?_)
  refine jr_iload_n hX dX6_load_30 rfl ?_
  refine jr_bipush (v := -60) hX dX6_load_31 (by decide) ?_
  refine jr_bipush (v := 60) hX dX6_load_33 (by decide) ?_
  refine jr_ret (jr_runS hX hSt kM_X6_47 (c_isIn_x (jj_fl hX) (jm_nr h_y)) rfl rfl dX6_load_35 rfl ⟨jj_b1 rfl, jj_b1 rfl⟩ rfl) ?_
  refine jr_if_ne (tgt := 47) hX dX6_load_38 (by decide) (fun c_38 => absurd rfl c_38) (fun c_38 => ?_)
  refine jr_aload_n hX dX6_load_41 rfl ?_
  refine jr_iconst (v := 2) hX dX6_load_42 (by decide) ?_
  refine jr_ret (jr_runV hX hSt kM_X6_57 (c_fail (jj_fl hX) hly) rfl rfl (ly_kMo hly) ⟨_, _, rfl, by decide⟩ dX6_load_43 rfl ⟨jj_b1 rfl, jj_b1 rfl⟩ rfl) ?_
  exact jr_iret hX dX6_load_46 rfl rfl ⟨rfl, rfl, rfl, rfl, rfl, rfl⟩
set_option maxHeartbeats 4000000 in
set_option maxRecDepth 100000 in
theorem m_load_x4 {l : Launch} (hfl : l.stackTraces = false) {D : jj_D} {n : Nat} {K : jj_K} {I : jj_I} {P : jj_P} {G : jj_G} (hly : ly K P) {H M B N : Nat} {C : jj_I} {b : Nat} {g : Nat} {y : Int32} (hs : sf 0 H M B N C) (hk : sk 0 H M B N C) (hm : ml 0 H M B N C I) (hz : mz M C I) (h_b : b < B) (h_g : g < 4) (h_y : -60 ≤ y ∧ y ≤ 60) (h_0 : y = 0) :
    jj_Met l D yX6_load (jj_ws yX6_load cX6_load 5 (some .int)) { frames := 2, cells := 0, slots := 0, locals := 45 } [.ref 150, .int (nI b), .int (nI g), .int y] n K I P G (jj_R (some (.int 0)) (n) (K) (jj_u (jj_u I 150 0 0) 150 0 2) (P) (G)) jj_noX := by
  refine jj_of hfl (by decide +kernel) [some (.ref 150), some (.int (nI b)), some (.int (nI g)), some (.int y), none] rfl rfl ?_
  intro X hXl hX hSt
  have z := sf_Z hs
  have hm0 : ml 0 H M B N C (jj_u I 150 0 0) := ml_th hm z
  have hz0 : mz M C (jj_u I 150 0 0) := mz_th hz
  have hH0 := hm0.1.1
  have hM0 := hm0.1.2.1
  have hB0 := hm0.1.2.2.1
  have hN0 := hm0.1.2.2.2
  have hH2 := hs.1.2
  have hM2 := z.1
  have hB2 := z.2.1
  have hN2 := z.2.2
  refine jr_aload_n hX dX6_load_0 rfl ?_
  refine jr_iconst (v := 0) hX dX6_load_1 (by decide) ?_
  refine jr_puti hX kF_X6_40 rfl (ly_kMo hly) (by decide) dX6_load_2 ?_
  refine jr_aload_n hX dX6_load_5 rfl ?_
  refine jr_iload_n hX dX6_load_6 rfl ?_
  refine jr_ret (jr_runV hX hSt kM_X6_121 (c_isBoat_ok (jj_fl hX) hly h_b hB0 (by omega)) rfl rfl (ly_kMo hly) ⟨_, _, rfl, by decide⟩ dX6_load_7 rfl ⟨jj_b1 rfl, jj_b1 rfl⟩ rfl) ?_
  refine jr_if_eq (tgt := 20) hX dX6_load_10 (by decide) (fun c_10 => absurd c_10 (by decide)) (fun c_10 => ?_)
  refine jr_iload_n hX dX6_load_13 rfl ?_
  refine jr_ret (jr_runS hX hSt kM_X6_65 (c_isGood_ok (jj_fl hX) h_g) rfl rfl dX6_load_14 rfl ⟨jj_b1 rfl, jj_b1 rfl⟩ rfl) ?_
  refine jr_if_ne (tgt := 26) hX dX6_load_17 (by decide) (fun c_17 => ?_) (fun c_17 => absurd c_17 (by decide))
  refine jr_iload_n hX dX6_load_26 rfl ?_
  refine jr_if_eq (tgt := 41) hX dX6_load_27 (by decide) (fun c_27 => ?_) (fun c_27 => absurd h_0 c_27)
  refine jr_aload_n hX dX6_load_41 rfl ?_
  refine jr_iconst (v := 2) hX dX6_load_42 (by decide) ?_
  refine jr_ret (jr_runV hX hSt kM_X6_57 (c_fail (jj_fl hX) hly) rfl rfl (ly_kMo hly) ⟨_, _, rfl, by decide⟩ dX6_load_43 rfl ⟨jj_b1 rfl, jj_b1 rfl⟩ rfl) ?_
  exact jr_iret hX dX6_load_46 rfl rfl ⟨rfl, rfl, rfl, rfl, rfl, rfl⟩
set_option maxHeartbeats 4000000 in
set_option maxRecDepth 100000 in
theorem m_load_x5 {l : Launch} (hfl : l.stackTraces = false) {D : jj_D} {n : Nat} {K : jj_K} {I : jj_I} {P : jj_P} {G : jj_G} (hly : ly K P) {H M B N : Nat} {C : jj_I} {b : Nat} {g : Nat} {y : Int32} (hs : sf 0 H M B N C) (hk : sk 0 H M B N C) (hm : ml 0 H M B N C I) (hz : mz M C I) (h_b : b < B) (h_g : g < 4) (h_y : -60 ≤ y ∧ y ≤ 60) (h_0 : ¬ y = 0) (h_i : ¬ (C (aB 0 b) 3 = 0 ∨ C (aB 0 b) 3 = 1)) :
    jj_Met l D yX6_load (jj_ws yX6_load cX6_load 5 (some .int)) { frames := 2, cells := 0, slots := 0, locals := 45 } [.ref 150, .int (nI b), .int (nI g), .int y] n K I P G (jj_R (some (.int 0)) (n) (K) (jj_u (jj_u I 150 0 0) 150 0 3) (P) (G)) jj_noX := by
  refine jj_of hfl (by decide +kernel) [some (.ref 150), some (.int (nI b)), some (.int (nI g)), some (.int y), none] rfl rfl ?_
  intro X hXl hX hSt
  have z := sf_Z hs
  have hm0 : ml 0 H M B N C (jj_u I 150 0 0) := ml_th hm z
  have hz0 : mz M C (jj_u I 150 0 0) := mz_th hz
  have hH0 := hm0.1.1
  have hM0 := hm0.1.2.1
  have hB0 := hm0.1.2.2.1
  have hN0 := hm0.1.2.2.2
  have hH2 := hs.1.2
  have hM2 := z.1
  have hB2 := z.2.1
  have hN2 := z.2.2
  obtain ⟨⟨o_, ho_, eo_⟩, hp, h4, hl, ⟨g0, hg0, eg0⟩⟩ := hs.2.2.2.2.1 b h_b
  obtain ⟨o, ho, eo⟩ := (hk.2.1 b h_b).2
  obtain ⟨st0, st1, st2, st3, st4, st5, st6, st7, st8⟩ := ml_hB hm0 h_b
  refine jr_aload_n hX dX6_load_0 rfl ?_
  refine jr_iconst (v := 0) hX dX6_load_1 (by decide) ?_
  refine jr_puti hX kF_X6_40 rfl (ly_kMo hly) (by decide) dX6_load_2 ?_
  refine jr_aload_n hX dX6_load_5 rfl ?_
  refine jr_iload_n hX dX6_load_6 rfl ?_
  refine jr_ret (jr_runV hX hSt kM_X6_121 (c_isBoat_ok (jj_fl hX) hly h_b hB0 (by omega)) rfl rfl (ly_kMo hly) ⟨_, _, rfl, by decide⟩ dX6_load_7 rfl ⟨jj_b1 rfl, jj_b1 rfl⟩ rfl) ?_
  refine jr_if_eq (tgt := 20) hX dX6_load_10 (by decide) (fun c_10 => absurd c_10 (by decide)) (fun c_10 => ?_)
  refine jr_iload_n hX dX6_load_13 rfl ?_
  refine jr_ret (jr_runS hX hSt kM_X6_65 (c_isGood_ok (jj_fl hX) h_g) rfl rfl dX6_load_14 rfl ⟨jj_b1 rfl, jj_b1 rfl⟩ rfl) ?_
  refine jr_if_ne (tgt := 26) hX dX6_load_17 (by decide) (fun c_17 => ?_) (fun c_17 => absurd c_17 (by decide))
  refine jr_iload_n hX dX6_load_26 rfl ?_
  refine jr_if_eq (tgt := 41) hX dX6_load_27 (by decide) (fun c_27 => absurd c_27 h_0) (fun c_27 => ?_)
  refine jr_iload_n hX dX6_load_30 rfl ?_
  refine jr_bipush (v := -60) hX dX6_load_31 (by decide) ?_
  refine jr_bipush (v := 60) hX dX6_load_33 (by decide) ?_
  refine jr_ret (jr_runS hX hSt kM_X6_47 (c_isIn_ok (jj_fl hX) h_y) rfl rfl dX6_load_35 rfl ⟨jj_b1 rfl, jj_b1 rfl⟩ rfl) ?_
  refine jr_if_ne (tgt := 47) hX dX6_load_38 (by decide) (fun c_38 => ?_) (fun c_38 => absurd c_38 (by decide))
  refine jr_aload_n hX dX6_load_47 rfl ?_
  refine jr_iload_n hX dX6_load_48 rfl ?_
  refine jr_ret (jr_runV hX hSt kM_X6_77 (c_isHere (jj_fl hX) hly (by omega)) rfl rfl (ly_kMo hly) ⟨_, _, rfl, by decide⟩ dX6_load_49 rfl ⟨jj_b1 rfl, jj_b1 rfl⟩ rfl) ?_
  rw [st3]
  refine jr_if_ne (tgt := 61) hX dX6_load_52 (by decide) (fun c_52 => absurd (jm_h0 hp h_i) c_52) (fun c_52 => ?_)
  refine jr_aload_n hX dX6_load_55 rfl ?_
  refine jr_iconst (v := 3) hX dX6_load_56 (by decide) ?_
  refine jr_ret (jr_runV hX hSt kM_X6_57 (c_fail (jj_fl hX) hly) rfl rfl (ly_kMo hly) ⟨_, _, rfl, by decide⟩ dX6_load_57 rfl ⟨jj_b1 rfl, jj_b1 rfl⟩ rfl) ?_
  exact jr_iret hX dX6_load_60 rfl rfl ⟨rfl, rfl, rfl, rfl, rfl, rfl⟩
set_option maxHeartbeats 4000000 in
set_option maxRecDepth 100000 in
theorem m_load_x6 {l : Launch} (hfl : l.stackTraces = false) {D : jj_D} {n : Nat} {K : jj_K} {I : jj_I} {P : jj_P} {G : jj_G} (hly : ly K P) {H M B N : Nat} {C : jj_I} {b : Nat} {g : Nat} {y : Int32} (hs : sf 0 H M B N C) (hk : sk 0 H M B N C) (hm : ml 0 H M B N C I) (hz : mz M C I) (h_b : b < B) (h_g : g < 4) (h_y : -60 ≤ y ∧ y ≤ 60) (h_0 : ¬ y = 0) (h_i : C (aB 0 b) 3 = 0 ∨ C (aB 0 b) 3 = 1) (h_e : (if 0 < y then C (aMt 0 (nv (C (aB 0 b) 0))) (nv (C (aB 0 b) 4) * 4 + g) else C (aBc 0 b) g) < (if 0 ≤ y then y else 0 - y)) :
    jj_Met l D yX6_load (jj_ws yX6_load cX6_load 5 (some .int)) { frames := 2, cells := 0, slots := 0, locals := 45 } [.ref 150, .int (nI b), .int (nI g), .int y] n K I P G (jj_R (some (.int 0)) (n) (K) (jj_u (jj_u I 150 0 0) 150 0 3) (P) (G)) jj_noX := by
  refine jj_of hfl (by decide +kernel) [some (.ref 150), some (.int (nI b)), some (.int (nI g)), some (.int y), none] rfl rfl ?_
  intro X hXl hX hSt
  have z := sf_Z hs
  have hm0 : ml 0 H M B N C (jj_u I 150 0 0) := ml_th hm z
  have hz0 : mz M C (jj_u I 150 0 0) := mz_th hz
  have hH0 := hm0.1.1
  have hM0 := hm0.1.2.1
  have hB0 := hm0.1.2.2.1
  have hN0 := hm0.1.2.2.2
  have hH2 := hs.1.2
  have hM2 := z.1
  have hB2 := z.2.1
  have hN2 := z.2.2
  obtain ⟨⟨o_, ho_, eo_⟩, hp, h4, hl, ⟨g0, hg0, eg0⟩⟩ := hs.2.2.2.2.1 b h_b
  obtain ⟨o, ho, eo⟩ := (hk.2.1 b h_b).2
  obtain ⟨st0, st1, st2, st3, st4, st5, st6, st7, st8⟩ := ml_hB hm0 h_b
  obtain ⟨h0, hh0, eh0⟩ := h4 (by rcases h_i with e | e <;> rw [e] <;> decide)
  have vo : nv (C (aB 0 b) 0) = o := by rw [eo, nv_nI (by omega)]
  have vh : nv (C (aB 0 b) 4) = h0 := by rw [eh0, nv_nI (by omega)]
  have c4 : 4 * h0 + g = h0 * 4 + g := by omega
  have sk4 := ml_hStock hm0 ho (show 4 * h0 + g < 32 by omega)
  rw [vo, vh, ← c4] at h_e
  refine jr_aload_n hX dX6_load_0 rfl ?_
  refine jr_iconst (v := 0) hX dX6_load_1 (by decide) ?_
  refine jr_puti hX kF_X6_40 rfl (ly_kMo hly) (by decide) dX6_load_2 ?_
  refine jr_aload_n hX dX6_load_5 rfl ?_
  refine jr_iload_n hX dX6_load_6 rfl ?_
  refine jr_ret (jr_runV hX hSt kM_X6_121 (c_isBoat_ok (jj_fl hX) hly h_b hB0 (by omega)) rfl rfl (ly_kMo hly) ⟨_, _, rfl, by decide⟩ dX6_load_7 rfl ⟨jj_b1 rfl, jj_b1 rfl⟩ rfl) ?_
  refine jr_if_eq (tgt := 20) hX dX6_load_10 (by decide) (fun c_10 => absurd c_10 (by decide)) (fun c_10 => ?_)
  refine jr_iload_n hX dX6_load_13 rfl ?_
  refine jr_ret (jr_runS hX hSt kM_X6_65 (c_isGood_ok (jj_fl hX) h_g) rfl rfl dX6_load_14 rfl ⟨jj_b1 rfl, jj_b1 rfl⟩ rfl) ?_
  refine jr_if_ne (tgt := 26) hX dX6_load_17 (by decide) (fun c_17 => ?_) (fun c_17 => absurd c_17 (by decide))
  refine jr_iload_n hX dX6_load_26 rfl ?_
  refine jr_if_eq (tgt := 41) hX dX6_load_27 (by decide) (fun c_27 => absurd c_27 h_0) (fun c_27 => ?_)
  refine jr_iload_n hX dX6_load_30 rfl ?_
  refine jr_bipush (v := -60) hX dX6_load_31 (by decide) ?_
  refine jr_bipush (v := 60) hX dX6_load_33 (by decide) ?_
  refine jr_ret (jr_runS hX hSt kM_X6_47 (c_isIn_ok (jj_fl hX) h_y) rfl rfl dX6_load_35 rfl ⟨jj_b1 rfl, jj_b1 rfl⟩ rfl) ?_
  refine jr_if_ne (tgt := 47) hX dX6_load_38 (by decide) (fun c_38 => ?_) (fun c_38 => absurd c_38 (by decide))
  refine jr_aload_n hX dX6_load_47 rfl ?_
  refine jr_iload_n hX dX6_load_48 rfl ?_
  refine jr_ret (jr_runV hX hSt kM_X6_77 (c_isHere (jj_fl hX) hly (by omega)) rfl rfl (ly_kMo hly) ⟨_, _, rfl, by decide⟩ dX6_load_49 rfl ⟨jj_b1 rfl, jj_b1 rfl⟩ rfl) ?_
  rw [st3]
  refine jr_if_ne (tgt := 61) hX dX6_load_52 (by decide) (fun c_52 => ?_) (fun c_52 => absurd c_52 (jm_h1 h_i))
  refine jr_aload_n hX dX6_load_61 rfl ?_
  refine jr_iload_n hX dX6_load_62 rfl ?_
  refine jr_iconst (v := 0) hX dX6_load_63 (by decide) ?_
  refine jr_ret (jr_runV hX hSt kM_X6_74 (c_bo (jj_fl hX) hly (b := b) (k := 0) (by omega) (show _ = nI 0 from rfl) (by decide)) rfl rfl (ly_kMo hly) ⟨_, _, rfl, by decide⟩ dX6_load_64 rfl ⟨jj_b1 rfl, jj_b1 rfl⟩ rfl) ?_
  rw [st0, eo]
  refine jr_aload_n hX dX6_load_67 rfl ?_
  refine jr_iload_n hX dX6_load_68 rfl ?_
  refine jr_iconst (v := 4) hX dX6_load_69 (by decide) ?_
  refine jr_ret (jr_runV hX hSt kM_X6_74 (c_bo (jj_fl hX) hly (b := b) (k := 4) (by omega) (show _ = nI 4 from rfl) (by decide)) rfl rfl (ly_kMo hly) ⟨_, _, rfl, by decide⟩ dX6_load_70 rfl ⟨jj_b1 rfl, jj_b1 rfl⟩ rfl) ?_
  rw [st4, eh0]
  refine jr_iload_n hX dX6_load_73 rfl ?_
  refine jr_ret (jr_runS hX hSt kM_X6_99 (c_at (jj_fl hX) (m := o) (h := h0) (g := g) rfl rfl rfl) rfl rfl dX6_load_74 rfl ⟨jj_b1 rfl, jj_b1 rfl⟩ rfl) ?_
  refine jr_istore hX dX6_load_77 rfl ?_
  refine jr_iload_n hX dX6_load_79 rfl ?_
  refine jr_aload_n hX dX6_load_80 rfl ?_
  refine jr_getr hX kF_X6_28 rfl (ly_kMo hly) (ly_p6_11 hly) dX6_load_81 ?_
  refine jr_iload hX dX6_load_84 rfl ?_
  refine jr_iald hX (by first | with_reducible assumption | with_reducible exact ly_kWm hly (by first | assumption | omega) | with_reducible exact ly_kLd hly (by first | assumption | omega) | with_reducible exact ly_kIc hly (by first | assumption | omega) | with_reducible exact ly_kBe hly (by first | assumption | omega) | with_reducible exact ly_kPr hly (by first | assumption | omega) | with_reducible exact ly_kMt hly (by first | assumption | omega) (by first | assumption | omega) | with_reducible exact ly_kBc hly (by first | assumption | omega) (by first | assumption | omega) | with_reducible exact ly_k151 hly | with_reducible exact ly_k152 hly | with_reducible exact ly_k153 hly | with_reducible exact ly_k154 hly | with_reducible exact ly_k155 hly | with_reducible exact ly_k156 hly | with_reducible exact ly_k157 hly | with_reducible exact ly_k158 hly | with_reducible exact ly_k159 hly | with_reducible exact ly_k160 hly | with_reducible exact ly_kAh hly (by first | assumption | omega)) (by first | with_reducible rfl | with_reducible assumption | rfl) (by omega) dX6_load_86 ?_
  rw [sk4]
  refine jr_icmp_gt (tgt := 120) hX dX6_load_87 (by decide) (fun c_87 => ?_) (fun c_87 => ?_)
  · refine jr_aload_n hX dX6_load_120 rfl ?_
    refine jr_iconst (v := 3) hX dX6_load_121 (by decide) ?_
    refine jr_ret (jr_runV hX hSt kM_X6_57 (c_fail (jj_fl hX) hly) rfl rfl (ly_kMo hly) ⟨_, _, rfl, by decide⟩ dX6_load_122 rfl ⟨jj_b1 rfl, jj_b1 rfl⟩ rfl) ?_
    exact jr_iret hX dX6_load_125 rfl rfl ⟨rfl, rfl, rfl, rfl, rfl, rfl⟩
  · refine jr_iload_n hX dX6_load_90 rfl ?_
    refine jr_ineg hX dX6_load_91 ?_
    refine jr_aload_n hX dX6_load_92 rfl ?_
    refine jr_iload_n hX dX6_load_93 rfl ?_
    refine jr_bipush (v := 8) hX dX6_load_94 (by decide) ?_
    refine jr_iload_n hX dX6_load_96 rfl ?_
    refine jr_iadd hX dX6_load_97 ?_
    refine jr_ret (jr_runV hX hSt kM_X6_74 (c_bo (jj_fl hX) hly (b := b) (k := 8 + g) (by omega) (show _ = nI (8 + g) from by rw [show (8 : Int32) = nI 8 from rfl, nI_add]) (by omega)) rfl rfl (ly_kMo hly) ⟨_, _, rfl, by decide⟩ dX6_load_98 rfl ⟨jj_b1 rfl, jj_b1 rfl⟩ rfl) ?_
    rw [st8 g h_g]
    refine jr_icmp_gt (tgt := 120) hX dX6_load_101 (by decide) (fun c_101 => ?_) (fun c_101 => absurd (jm_l6 h_0 h_e c_87) c_101)
    refine jr_aload_n hX dX6_load_120 rfl ?_
    refine jr_iconst (v := 3) hX dX6_load_121 (by decide) ?_
    refine jr_ret (jr_runV hX hSt kM_X6_57 (c_fail (jj_fl hX) hly) rfl rfl (ly_kMo hly) ⟨_, _, rfl, by decide⟩ dX6_load_122 rfl ⟨jj_b1 rfl, jj_b1 rfl⟩ rfl) ?_
    exact jr_iret hX dX6_load_125 rfl rfl ⟨rfl, rfl, rfl, rfl, rfl, rfl⟩
set_option maxHeartbeats 4000000 in
set_option maxRecDepth 100000 in
theorem m_load_x7 {l : Launch} (hfl : l.stackTraces = false) {D : jj_D} {n : Nat} {K : jj_K} {I : jj_I} {P : jj_P} {G : jj_G} (hly : ly K P) {H M B N : Nat} {C : jj_I} {b : Nat} {g : Nat} {y : Int32} (hs : sf 0 H M B N C) (hk : sk 0 H M B N C) (hm : ml 0 H M B N C I) (hz : mz M C I) (h_b : b < B) (h_g : g < 4) (h_y : -60 ≤ y ∧ y ≤ 60) (h_0 : ¬ y = 0) (h_i : C (aB 0 b) 3 = 0 ∨ C (aB 0 b) 3 = 1) (h_e : (if 0 ≤ y then y else 0 - y) ≤ (if 0 < y then C (aMt 0 (nv (C (aB 0 b) 0))) (nv (C (aB 0 b) 4) * 4 + g) else C (aBc 0 b) g)) (h_f : C (aB 0 b) 2 - sm (C (aBc 0 b)) 4 < y) (hst : 0 ≤ C (aMt 0 (nv (C (aB 0 b) 0))) ((nv (C (aB 0 b) 4)) * 4 + g)) (hca : 0 ≤ C (aBc 0 b) g) (hlo : ∃ s r, s ≤ r ∧ r ≤ 60 ∧ sm (C (aBc 0 b)) 4 = nI s ∧ C (aB 0 b) 2 = nI r) :
    jj_Met l D yX6_load (jj_ws yX6_load cX6_load 5 (some .int)) { frames := 2, cells := 0, slots := 0, locals := 45 } [.ref 150, .int (nI b), .int (nI g), .int y] n K I P G (jj_R (some (.int 0)) (n) (K) (jj_u (jj_u I 150 0 0) 150 0 3) (P) (G)) jj_noX := by
  refine jj_of hfl (by decide +kernel) [some (.ref 150), some (.int (nI b)), some (.int (nI g)), some (.int y), none] rfl rfl ?_
  intro X hXl hX hSt
  have z := sf_Z hs
  have hm0 : ml 0 H M B N C (jj_u I 150 0 0) := ml_th hm z
  have hz0 : mz M C (jj_u I 150 0 0) := mz_th hz
  have hH0 := hm0.1.1
  have hM0 := hm0.1.2.1
  have hB0 := hm0.1.2.2.1
  have hN0 := hm0.1.2.2.2
  have hH2 := hs.1.2
  have hM2 := z.1
  have hB2 := z.2.1
  have hN2 := z.2.2
  obtain ⟨⟨o_, ho_, eo_⟩, hp, h4, hl, ⟨g0, hg0, eg0⟩⟩ := hs.2.2.2.2.1 b h_b
  obtain ⟨o, ho, eo⟩ := (hk.2.1 b h_b).2
  obtain ⟨st0, st1, st2, st3, st4, st5, st6, st7, st8⟩ := ml_hB hm0 h_b
  obtain ⟨h0, hh0, eh0⟩ := h4 (by rcases h_i with e | e <;> rw [e] <;> decide)
  have vo : nv (C (aB 0 b) 0) = o := by rw [eo, nv_nI (by omega)]
  have vh : nv (C (aB 0 b) 4) = h0 := by rw [eh0, nv_nI (by omega)]
  have c4 : 4 * h0 + g = h0 * 4 + g := by omega
  have sk4 := ml_hStock hm0 ho (show 4 * h0 + g < 32 by omega)
  rw [vo, vh, ← c4] at h_e
  rw [vo, vh, ← c4] at hst
  obtain ⟨s, r, hsr, hr60, es, er⟩ := hlo
  have l3 := jm_l3 hsr hr60 h_y
  rw [er, es] at h_f
  refine jr_aload_n hX dX6_load_0 rfl ?_
  refine jr_iconst (v := 0) hX dX6_load_1 (by decide) ?_
  refine jr_puti hX kF_X6_40 rfl (ly_kMo hly) (by decide) dX6_load_2 ?_
  refine jr_aload_n hX dX6_load_5 rfl ?_
  refine jr_iload_n hX dX6_load_6 rfl ?_
  refine jr_ret (jr_runV hX hSt kM_X6_121 (c_isBoat_ok (jj_fl hX) hly h_b hB0 (by omega)) rfl rfl (ly_kMo hly) ⟨_, _, rfl, by decide⟩ dX6_load_7 rfl ⟨jj_b1 rfl, jj_b1 rfl⟩ rfl) ?_
  refine jr_if_eq (tgt := 20) hX dX6_load_10 (by decide) (fun c_10 => absurd c_10 (by decide)) (fun c_10 => ?_)
  refine jr_iload_n hX dX6_load_13 rfl ?_
  refine jr_ret (jr_runS hX hSt kM_X6_65 (c_isGood_ok (jj_fl hX) h_g) rfl rfl dX6_load_14 rfl ⟨jj_b1 rfl, jj_b1 rfl⟩ rfl) ?_
  refine jr_if_ne (tgt := 26) hX dX6_load_17 (by decide) (fun c_17 => ?_) (fun c_17 => absurd c_17 (by decide))
  refine jr_iload_n hX dX6_load_26 rfl ?_
  refine jr_if_eq (tgt := 41) hX dX6_load_27 (by decide) (fun c_27 => absurd c_27 h_0) (fun c_27 => ?_)
  refine jr_iload_n hX dX6_load_30 rfl ?_
  refine jr_bipush (v := -60) hX dX6_load_31 (by decide) ?_
  refine jr_bipush (v := 60) hX dX6_load_33 (by decide) ?_
  refine jr_ret (jr_runS hX hSt kM_X6_47 (c_isIn_ok (jj_fl hX) h_y) rfl rfl dX6_load_35 rfl ⟨jj_b1 rfl, jj_b1 rfl⟩ rfl) ?_
  refine jr_if_ne (tgt := 47) hX dX6_load_38 (by decide) (fun c_38 => ?_) (fun c_38 => absurd c_38 (by decide))
  refine jr_aload_n hX dX6_load_47 rfl ?_
  refine jr_iload_n hX dX6_load_48 rfl ?_
  refine jr_ret (jr_runV hX hSt kM_X6_77 (c_isHere (jj_fl hX) hly (by omega)) rfl rfl (ly_kMo hly) ⟨_, _, rfl, by decide⟩ dX6_load_49 rfl ⟨jj_b1 rfl, jj_b1 rfl⟩ rfl) ?_
  rw [st3]
  refine jr_if_ne (tgt := 61) hX dX6_load_52 (by decide) (fun c_52 => ?_) (fun c_52 => absurd c_52 (jm_h1 h_i))
  refine jr_aload_n hX dX6_load_61 rfl ?_
  refine jr_iload_n hX dX6_load_62 rfl ?_
  refine jr_iconst (v := 0) hX dX6_load_63 (by decide) ?_
  refine jr_ret (jr_runV hX hSt kM_X6_74 (c_bo (jj_fl hX) hly (b := b) (k := 0) (by omega) (show _ = nI 0 from rfl) (by decide)) rfl rfl (ly_kMo hly) ⟨_, _, rfl, by decide⟩ dX6_load_64 rfl ⟨jj_b1 rfl, jj_b1 rfl⟩ rfl) ?_
  rw [st0, eo]
  refine jr_aload_n hX dX6_load_67 rfl ?_
  refine jr_iload_n hX dX6_load_68 rfl ?_
  refine jr_iconst (v := 4) hX dX6_load_69 (by decide) ?_
  refine jr_ret (jr_runV hX hSt kM_X6_74 (c_bo (jj_fl hX) hly (b := b) (k := 4) (by omega) (show _ = nI 4 from rfl) (by decide)) rfl rfl (ly_kMo hly) ⟨_, _, rfl, by decide⟩ dX6_load_70 rfl ⟨jj_b1 rfl, jj_b1 rfl⟩ rfl) ?_
  rw [st4, eh0]
  refine jr_iload_n hX dX6_load_73 rfl ?_
  refine jr_ret (jr_runS hX hSt kM_X6_99 (c_at (jj_fl hX) (m := o) (h := h0) (g := g) rfl rfl rfl) rfl rfl dX6_load_74 rfl ⟨jj_b1 rfl, jj_b1 rfl⟩ rfl) ?_
  refine jr_istore hX dX6_load_77 rfl ?_
  refine jr_iload_n hX dX6_load_79 rfl ?_
  refine jr_aload_n hX dX6_load_80 rfl ?_
  refine jr_getr hX kF_X6_28 rfl (ly_kMo hly) (ly_p6_11 hly) dX6_load_81 ?_
  refine jr_iload hX dX6_load_84 rfl ?_
  refine jr_iald hX (by first | with_reducible assumption | with_reducible exact ly_kWm hly (by first | assumption | omega) | with_reducible exact ly_kLd hly (by first | assumption | omega) | with_reducible exact ly_kIc hly (by first | assumption | omega) | with_reducible exact ly_kBe hly (by first | assumption | omega) | with_reducible exact ly_kPr hly (by first | assumption | omega) | with_reducible exact ly_kMt hly (by first | assumption | omega) (by first | assumption | omega) | with_reducible exact ly_kBc hly (by first | assumption | omega) (by first | assumption | omega) | with_reducible exact ly_k151 hly | with_reducible exact ly_k152 hly | with_reducible exact ly_k153 hly | with_reducible exact ly_k154 hly | with_reducible exact ly_k155 hly | with_reducible exact ly_k156 hly | with_reducible exact ly_k157 hly | with_reducible exact ly_k158 hly | with_reducible exact ly_k159 hly | with_reducible exact ly_k160 hly | with_reducible exact ly_kAh hly (by first | assumption | omega)) (by first | with_reducible rfl | with_reducible assumption | rfl) (by omega) dX6_load_86 ?_
  rw [sk4]
  refine jr_icmp_gt (tgt := 120) hX dX6_load_87 (by decide) (fun c_87 => ?_) (fun c_87 => ?_)
  · refine jr_aload_n hX dX6_load_120 rfl ?_
    refine jr_iconst (v := 3) hX dX6_load_121 (by decide) ?_
    refine jr_ret (jr_runV hX hSt kM_X6_57 (c_fail (jj_fl hX) hly) rfl rfl (ly_kMo hly) ⟨_, _, rfl, by decide⟩ dX6_load_122 rfl ⟨jj_b1 rfl, jj_b1 rfl⟩ rfl) ?_
    exact jr_iret hX dX6_load_125 rfl rfl ⟨rfl, rfl, rfl, rfl, rfl, rfl⟩
  · refine jr_iload_n hX dX6_load_90 rfl ?_
    refine jr_ineg hX dX6_load_91 ?_
    refine jr_aload_n hX dX6_load_92 rfl ?_
    refine jr_iload_n hX dX6_load_93 rfl ?_
    refine jr_bipush (v := 8) hX dX6_load_94 (by decide) ?_
    refine jr_iload_n hX dX6_load_96 rfl ?_
    refine jr_iadd hX dX6_load_97 ?_
    refine jr_ret (jr_runV hX hSt kM_X6_74 (c_bo (jj_fl hX) hly (b := b) (k := 8 + g) (by omega) (show _ = nI (8 + g) from by rw [show (8 : Int32) = nI 8 from rfl, nI_add]) (by omega)) rfl rfl (ly_kMo hly) ⟨_, _, rfl, by decide⟩ dX6_load_98 rfl ⟨jj_b1 rfl, jj_b1 rfl⟩ rfl) ?_
    rw [st8 g h_g]
    refine jr_icmp_gt (tgt := 120) hX dX6_load_101 (by decide) (fun c_101 => ?_) (fun c_101 => ?_)
    · refine jr_aload_n hX dX6_load_120 rfl ?_
      refine jr_iconst (v := 3) hX dX6_load_121 (by decide) ?_
      refine jr_ret (jr_runV hX hSt kM_X6_57 (c_fail (jj_fl hX) hly) rfl rfl (ly_kMo hly) ⟨_, _, rfl, by decide⟩ dX6_load_122 rfl ⟨jj_b1 rfl, jj_b1 rfl⟩ rfl) ?_
      exact jr_iret hX dX6_load_125 rfl rfl ⟨rfl, rfl, rfl, rfl, rfl, rfl⟩
    · refine jr_aload_n hX dX6_load_104 rfl ?_
      refine jr_iload_n hX dX6_load_105 rfl ?_
      refine jr_ret (jr_runV hX hSt kM_X6_103 (c_loaded (jj_fl hX) hly (by omega)) rfl rfl (ly_kMo hly) ⟨_, _, rfl, by decide⟩ dX6_load_106 rfl ⟨jj_b1 rfl, jj_b1 rfl⟩ rfl) ?_
      rw [ld_eq hm0 h_b]
      refine jr_iload_n hX dX6_load_109 rfl ?_
      refine jr_iadd hX dX6_load_110 ?_
      refine jr_aload_n hX dX6_load_111 rfl ?_
      refine jr_iload_n hX dX6_load_112 rfl ?_
      refine jr_iconst (v := 2) hX dX6_load_113 (by decide) ?_
      refine jr_ret (jr_runV hX hSt kM_X6_74 (c_bo (jj_fl hX) hly (b := b) (k := 2) (by omega) (show _ = nI 2 from rfl) (by decide)) rfl rfl (ly_kMo hly) ⟨_, _, rfl, by decide⟩ dX6_load_114 rfl ⟨jj_b1 rfl, jj_b1 rfl⟩ rfl) ?_
      rw [st2]
      rw [es, er]
      refine jr_icmp_le (tgt := 126) hX dX6_load_117 (by decide) (fun c_117 => absurd c_117 (fun e => absurd (l3.mp e) (Int32.not_le.mpr h_f))) (fun c_117 => ?_)
      refine jr_aload_n hX dX6_load_120 rfl ?_
      refine jr_iconst (v := 3) hX dX6_load_121 (by decide) ?_
      refine jr_ret (jr_runV hX hSt kM_X6_57 (c_fail (jj_fl hX) hly) rfl rfl (ly_kMo hly) ⟨_, _, rfl, by decide⟩ dX6_load_122 rfl ⟨jj_b1 rfl, jj_b1 rfl⟩ rfl) ?_
      exact jr_iret hX dX6_load_125 rfl rfl ⟨rfl, rfl, rfl, rfl, rfl, rfl⟩
set_option maxHeartbeats 4000000 in
set_option maxRecDepth 100000 in
theorem m_load_ok {l : Launch} (hfl : l.stackTraces = false) {D : jj_D} {n : Nat} {K : jj_K} {I : jj_I} {P : jj_P} {G : jj_G} (hly : ly K P) {H M B N : Nat} {C : jj_I} {b : Nat} {g : Nat} {y : Int32} (hs : sf 0 H M B N C) (hk : sk 0 H M B N C) (hm : ml 0 H M B N C I) (hz : mz M C I) (h_b : b < B) (h_g : g < 4) (h_y : -60 ≤ y ∧ y ≤ 60) (h_0 : ¬ y = 0) (h_i : C (aB 0 b) 3 = 0 ∨ C (aB 0 b) 3 = 1) (h_e : (if 0 ≤ y then y else 0 - y) ≤ (if 0 < y then C (aMt 0 (nv (C (aB 0 b) 0))) (nv (C (aB 0 b) 4) * 4 + g) else C (aBc 0 b) g)) (h_f : y ≤ C (aB 0 b) 2 - sm (C (aBc 0 b)) 4) (hst : 0 ≤ C (aMt 0 (nv (C (aB 0 b) 0))) ((nv (C (aB 0 b) 4)) * 4 + g)) (hca : 0 ≤ C (aBc 0 b) g) (hlo : ∃ s r, s ≤ r ∧ r ≤ 60 ∧ sm (C (aBc 0 b)) 4 = nI s ∧ C (aB 0 b) 2 = nI r) :
    jj_Met l D yX6_load (jj_ws yX6_load cX6_load 5 (some .int)) { frames := 2, cells := 0, slots := 0, locals := 45 } [.ref 150, .int (nI b), .int (nI g), .int y] n K I P G (jj_RS (fun r J => r = some (.int (sm (f_load b g y C (aBc 0 b)) 4)) ∧ J 150 0 = 0 ∧ ml 0 H M B N (f_load b g y C) J ∧ mz (M) (f_load b g y C) J ∧ ∀ a, offN a → J a = I a) n K P G) jj_noX := by
  refine jj_of hfl (by decide +kernel) [some (.ref 150), some (.int (nI b)), some (.int (nI g)), some (.int y), none] rfl rfl ?_
  intro X hXl hX hSt
  have z := sf_Z hs
  have hm0 : ml 0 H M B N C (jj_u I 150 0 0) := ml_th hm z
  have hz0 : mz M C (jj_u I 150 0 0) := mz_th hz
  have hH0 := hm0.1.1
  have hM0 := hm0.1.2.1
  have hB0 := hm0.1.2.2.1
  have hN0 := hm0.1.2.2.2
  have hH2 := hs.1.2
  have hM2 := z.1
  have hB2 := z.2.1
  have hN2 := z.2.2
  obtain ⟨⟨o_, ho_, eo_⟩, hp, h4, hl, ⟨g0, hg0, eg0⟩⟩ := hs.2.2.2.2.1 b h_b
  obtain ⟨o, ho, eo⟩ := (hk.2.1 b h_b).2
  obtain ⟨st0, st1, st2, st3, st4, st5, st6, st7, st8⟩ := ml_hB hm0 h_b
  obtain ⟨h0, hh0, eh0⟩ := h4 (by rcases h_i with e | e <;> rw [e] <;> decide)
  have vo : nv (C (aB 0 b) 0) = o := by rw [eo, nv_nI (by omega)]
  have vh : nv (C (aB 0 b) 4) = h0 := by rw [eh0, nv_nI (by omega)]
  have c4 : 4 * h0 + g = h0 * 4 + g := by omega
  have sk4 := ml_hStock hm0 ho (show 4 * h0 + g < 32 by omega)
  rw [vo, vh, ← c4] at h_e
  rw [vo, vh, ← c4] at hst
  obtain ⟨s, r, hsr, hr60, es, er⟩ := hlo
  have l3 := jm_l3 hsr hr60 h_y
  rw [er, es] at h_f
  have fe := fload_eq (g := g) (y := y) eo eh0 (by omega) (by omega) (by omega)
  have m1 := ml_uStock (m := o) (k := 4 * h0 + g) (v := C (aMt 0 o) (4 * h0 + g) - y) hm0 z (by omega) (by omega)
  have m2 := ml_uLoad (c := g) (v := C (aBc 0 b) g + y) m1 z h_b h_g
  refine jr_aload_n hX dX6_load_0 rfl ?_
  refine jr_iconst (v := 0) hX dX6_load_1 (by decide) ?_
  refine jr_puti hX kF_X6_40 rfl (ly_kMo hly) (by decide) dX6_load_2 ?_
  refine jr_aload_n hX dX6_load_5 rfl ?_
  refine jr_iload_n hX dX6_load_6 rfl ?_
  refine jr_ret (jr_runV hX hSt kM_X6_121 (c_isBoat_ok (jj_fl hX) hly h_b hB0 (by omega)) rfl rfl (ly_kMo hly) ⟨_, _, rfl, by decide⟩ dX6_load_7 rfl ⟨jj_b1 rfl, jj_b1 rfl⟩ rfl) ?_
  refine jr_if_eq (tgt := 20) hX dX6_load_10 (by decide) (fun c_10 => absurd c_10 (by decide)) (fun c_10 => ?_)
  refine jr_iload_n hX dX6_load_13 rfl ?_
  refine jr_ret (jr_runS hX hSt kM_X6_65 (c_isGood_ok (jj_fl hX) h_g) rfl rfl dX6_load_14 rfl ⟨jj_b1 rfl, jj_b1 rfl⟩ rfl) ?_
  refine jr_if_ne (tgt := 26) hX dX6_load_17 (by decide) (fun c_17 => ?_) (fun c_17 => absurd c_17 (by decide))
  refine jr_iload_n hX dX6_load_26 rfl ?_
  refine jr_if_eq (tgt := 41) hX dX6_load_27 (by decide) (fun c_27 => absurd c_27 h_0) (fun c_27 => ?_)
  refine jr_iload_n hX dX6_load_30 rfl ?_
  refine jr_bipush (v := -60) hX dX6_load_31 (by decide) ?_
  refine jr_bipush (v := 60) hX dX6_load_33 (by decide) ?_
  refine jr_ret (jr_runS hX hSt kM_X6_47 (c_isIn_ok (jj_fl hX) h_y) rfl rfl dX6_load_35 rfl ⟨jj_b1 rfl, jj_b1 rfl⟩ rfl) ?_
  refine jr_if_ne (tgt := 47) hX dX6_load_38 (by decide) (fun c_38 => ?_) (fun c_38 => absurd c_38 (by decide))
  refine jr_aload_n hX dX6_load_47 rfl ?_
  refine jr_iload_n hX dX6_load_48 rfl ?_
  refine jr_ret (jr_runV hX hSt kM_X6_77 (c_isHere (jj_fl hX) hly (by omega)) rfl rfl (ly_kMo hly) ⟨_, _, rfl, by decide⟩ dX6_load_49 rfl ⟨jj_b1 rfl, jj_b1 rfl⟩ rfl) ?_
  rw [st3]
  refine jr_if_ne (tgt := 61) hX dX6_load_52 (by decide) (fun c_52 => ?_) (fun c_52 => absurd c_52 (jm_h1 h_i))
  refine jr_aload_n hX dX6_load_61 rfl ?_
  refine jr_iload_n hX dX6_load_62 rfl ?_
  refine jr_iconst (v := 0) hX dX6_load_63 (by decide) ?_
  refine jr_ret (jr_runV hX hSt kM_X6_74 (c_bo (jj_fl hX) hly (b := b) (k := 0) (by omega) (show _ = nI 0 from rfl) (by decide)) rfl rfl (ly_kMo hly) ⟨_, _, rfl, by decide⟩ dX6_load_64 rfl ⟨jj_b1 rfl, jj_b1 rfl⟩ rfl) ?_
  rw [st0, eo]
  refine jr_aload_n hX dX6_load_67 rfl ?_
  refine jr_iload_n hX dX6_load_68 rfl ?_
  refine jr_iconst (v := 4) hX dX6_load_69 (by decide) ?_
  refine jr_ret (jr_runV hX hSt kM_X6_74 (c_bo (jj_fl hX) hly (b := b) (k := 4) (by omega) (show _ = nI 4 from rfl) (by decide)) rfl rfl (ly_kMo hly) ⟨_, _, rfl, by decide⟩ dX6_load_70 rfl ⟨jj_b1 rfl, jj_b1 rfl⟩ rfl) ?_
  rw [st4, eh0]
  refine jr_iload_n hX dX6_load_73 rfl ?_
  refine jr_ret (jr_runS hX hSt kM_X6_99 (c_at (jj_fl hX) (m := o) (h := h0) (g := g) rfl rfl rfl) rfl rfl dX6_load_74 rfl ⟨jj_b1 rfl, jj_b1 rfl⟩ rfl) ?_
  refine jr_istore hX dX6_load_77 rfl ?_
  refine jr_iload_n hX dX6_load_79 rfl ?_
  refine jr_aload_n hX dX6_load_80 rfl ?_
  refine jr_getr hX kF_X6_28 rfl (ly_kMo hly) (ly_p6_11 hly) dX6_load_81 ?_
  refine jr_iload hX dX6_load_84 rfl ?_
  refine jr_iald hX (by first | with_reducible assumption | with_reducible exact ly_kWm hly (by first | assumption | omega) | with_reducible exact ly_kLd hly (by first | assumption | omega) | with_reducible exact ly_kIc hly (by first | assumption | omega) | with_reducible exact ly_kBe hly (by first | assumption | omega) | with_reducible exact ly_kPr hly (by first | assumption | omega) | with_reducible exact ly_kMt hly (by first | assumption | omega) (by first | assumption | omega) | with_reducible exact ly_kBc hly (by first | assumption | omega) (by first | assumption | omega) | with_reducible exact ly_k151 hly | with_reducible exact ly_k152 hly | with_reducible exact ly_k153 hly | with_reducible exact ly_k154 hly | with_reducible exact ly_k155 hly | with_reducible exact ly_k156 hly | with_reducible exact ly_k157 hly | with_reducible exact ly_k158 hly | with_reducible exact ly_k159 hly | with_reducible exact ly_k160 hly | with_reducible exact ly_kAh hly (by first | assumption | omega)) (by first | with_reducible rfl | with_reducible assumption | rfl) (by omega) dX6_load_86 ?_
  rw [sk4]
  refine jr_icmp_gt (tgt := 120) hX dX6_load_87 (by decide) (fun c_87 => absurd c_87 (jm_l1 hst h_e)) (fun c_87 => ?_)
  refine jr_iload_n hX dX6_load_90 rfl ?_
  refine jr_ineg hX dX6_load_91 ?_
  refine jr_aload_n hX dX6_load_92 rfl ?_
  refine jr_iload_n hX dX6_load_93 rfl ?_
  refine jr_bipush (v := 8) hX dX6_load_94 (by decide) ?_
  refine jr_iload_n hX dX6_load_96 rfl ?_
  refine jr_iadd hX dX6_load_97 ?_
  refine jr_ret (jr_runV hX hSt kM_X6_74 (c_bo (jj_fl hX) hly (b := b) (k := 8 + g) (by omega) (show _ = nI (8 + g) from by rw [show (8 : Int32) = nI 8 from rfl, nI_add]) (by omega)) rfl rfl (ly_kMo hly) ⟨_, _, rfl, by decide⟩ dX6_load_98 rfl ⟨jj_b1 rfl, jj_b1 rfl⟩ rfl) ?_
  rw [st8 g h_g]
  refine jr_icmp_gt (tgt := 120) hX dX6_load_101 (by decide) (fun c_101 => absurd c_101 (jm_l2 h_0 h_y hca h_e)) (fun c_101 => ?_)
  refine jr_aload_n hX dX6_load_104 rfl ?_
  refine jr_iload_n hX dX6_load_105 rfl ?_
  refine jr_ret (jr_runV hX hSt kM_X6_103 (c_loaded (jj_fl hX) hly (by omega)) rfl rfl (ly_kMo hly) ⟨_, _, rfl, by decide⟩ dX6_load_106 rfl ⟨jj_b1 rfl, jj_b1 rfl⟩ rfl) ?_
  rw [ld_eq hm0 h_b]
  refine jr_iload_n hX dX6_load_109 rfl ?_
  refine jr_iadd hX dX6_load_110 ?_
  refine jr_aload_n hX dX6_load_111 rfl ?_
  refine jr_iload_n hX dX6_load_112 rfl ?_
  refine jr_iconst (v := 2) hX dX6_load_113 (by decide) ?_
  refine jr_ret (jr_runV hX hSt kM_X6_74 (c_bo (jj_fl hX) hly (b := b) (k := 2) (by omega) (show _ = nI 2 from rfl) (by decide)) rfl rfl (ly_kMo hly) ⟨_, _, rfl, by decide⟩ dX6_load_114 rfl ⟨jj_b1 rfl, jj_b1 rfl⟩ rfl) ?_
  rw [st2]
  rw [es, er]
  refine jr_icmp_le (tgt := 126) hX dX6_load_117 (by decide) (fun c_117 => ?_) (fun c_117 => absurd (l3.mpr h_f) c_117)
  refine jr_aload_n hX dX6_load_126 rfl ?_
  refine jr_getr hX kF_X6_28 rfl (ly_kMo hly) (ly_p6_11 hly) dX6_load_127 ?_
  refine jr_iload hX dX6_load_130 rfl ?_
  refine jr_dup2 hX dX6_load_132 rfl rfl ?_
  refine jr_iald hX (by first | with_reducible assumption | with_reducible exact ly_kWm hly (by first | assumption | omega) | with_reducible exact ly_kLd hly (by first | assumption | omega) | with_reducible exact ly_kIc hly (by first | assumption | omega) | with_reducible exact ly_kBe hly (by first | assumption | omega) | with_reducible exact ly_kPr hly (by first | assumption | omega) | with_reducible exact ly_kMt hly (by first | assumption | omega) (by first | assumption | omega) | with_reducible exact ly_kBc hly (by first | assumption | omega) (by first | assumption | omega) | with_reducible exact ly_k151 hly | with_reducible exact ly_k152 hly | with_reducible exact ly_k153 hly | with_reducible exact ly_k154 hly | with_reducible exact ly_k155 hly | with_reducible exact ly_k156 hly | with_reducible exact ly_k157 hly | with_reducible exact ly_k158 hly | with_reducible exact ly_k159 hly | with_reducible exact ly_k160 hly | with_reducible exact ly_kAh hly (by first | assumption | omega)) (by first | with_reducible rfl | with_reducible assumption | rfl) (by omega) dX6_load_133 ?_
  rw [sk4]
  refine jr_iload_n hX dX6_load_134 rfl ?_
  refine jr_isub hX dX6_load_135 ?_
  refine jr_iast hX (by first | with_reducible assumption | with_reducible exact ly_kWm hly (by first | assumption | omega) | with_reducible exact ly_kLd hly (by first | assumption | omega) | with_reducible exact ly_kIc hly (by first | assumption | omega) | with_reducible exact ly_kBe hly (by first | assumption | omega) | with_reducible exact ly_kPr hly (by first | assumption | omega) | with_reducible exact ly_kMt hly (by first | assumption | omega) (by first | assumption | omega) | with_reducible exact ly_kBc hly (by first | assumption | omega) (by first | assumption | omega) | with_reducible exact ly_k151 hly | with_reducible exact ly_k152 hly | with_reducible exact ly_k153 hly | with_reducible exact ly_k154 hly | with_reducible exact ly_k155 hly | with_reducible exact ly_k156 hly | with_reducible exact ly_k157 hly | with_reducible exact ly_k158 hly | with_reducible exact ly_k159 hly | with_reducible exact ly_k160 hly | with_reducible exact ly_kAh hly (by first | assumption | omega)) (by first | assumption | with_reducible exact aMt_0 | with_reducible exact aBc_0 | with_reducible exact aWm_0 | with_reducible exact aLd_0 | with_reducible exact aIc_0 | with_reducible exact aBe_0 | with_reducible exact aPr_0 | with_reducible exact aAh_0 | decide | omega) (by first | with_reducible rfl | with_reducible assumption | rfl) (by omega) dX6_load_136 ?_
  refine jr_aload_n hX dX6_load_137 rfl ?_
  refine jr_iload_n hX dX6_load_138 rfl ?_
  refine jr_bipush (v := 8) hX dX6_load_139 (by decide) ?_
  refine jr_iload_n hX dX6_load_141 rfl ?_
  refine jr_iadd hX dX6_load_142 ?_
  refine jr_aload_n hX dX6_load_143 rfl ?_
  refine jr_iload_n hX dX6_load_144 rfl ?_
  refine jr_bipush (v := 8) hX dX6_load_145 (by decide) ?_
  refine jr_iload_n hX dX6_load_147 rfl ?_
  refine jr_iadd hX dX6_load_148 ?_
  refine jr_ret (jr_runV hX hSt kM_X6_74 (c_bo (jj_fl hX) hly (b := b) (k := 8 + g) (by omega) (show _ = nI (8 + g) from by rw [show (8 : Int32) = nI 8 from rfl, nI_add]) (by omega)) rfl rfl (ly_kMo hly) ⟨_, _, rfl, by decide⟩ dX6_load_149 rfl ⟨jj_b1 rfl, jj_b1 rfl⟩ rfl) ?_
  rw [jj_u_ne (show (158 : Nat) ≠ 157 by decide), st8 g h_g]
  refine jr_iload_n hX dX6_load_152 rfl ?_
  refine jr_iadd hX dX6_load_153 ?_
  refine jr_void (jr_runV hX hSt kM_X6_124 (c_setBo (jj_fl hX) hly (b := b) (k := 8 + g) (by omega) (show _ = nI (8 + g) from by rw [show (8 : Int32) = nI 8 from rfl, nI_add]) (by omega)) rfl rfl (ly_kMo hly) ⟨_, _, rfl, by decide⟩ dX6_load_154 rfl ⟨jj_b1 rfl, jj_b1 rfl⟩ rfl) ?_
  refine jr_aload_n hX dX6_load_157 rfl ?_
  refine jr_iload_n hX dX6_load_158 rfl ?_
  refine jr_ret (jr_runV hX hSt kM_X6_103 (c_loaded (jj_fl hX) hly (by omega)) rfl rfl (ly_kMo hly) ⟨_, _, rfl, by decide⟩ dX6_load_159 rfl ⟨jj_b1 rfl, jj_b1 rfl⟩ rfl) ?_
  rw [ld_eq m2 h_b]
  exact jr_iret hX dX6_load_162 rfl rfl ⟨⟨by rw [fe], by rw [jj_u_ne (by decide), jj_u_ne (by decide), jj_u_eq], by rw [fe]; exact m2, mz_cg hz0 (fun m2 _ _ => by rw [jj_u_ne (by decide), jj_u_ne (by decide)]) (fun m2 k _ _ _ => by rw [jj_u_ne (by decide), jj_u_nk (by omega)]) (fun m2 _ _ => by rw [fe, jj_u_ne (by simp only [aMt, aBc]; omega), jj_u_ne (by simp only [aMt]; omega)]), fun a ha => (jj_u_ne (by unfold offN at ha; omega)).trans ((jj_u_ne (by unfold offN at ha; omega)).trans (jj_u_ne (by unfold offN at ha; omega)))⟩, rfl, rfl, rfl, rfl⟩
set_option maxHeartbeats 4000000 in
set_option maxRecDepth 100000 in
theorem m_mean {l : Launch} (hfl : l.stackTraces = false) {D : jj_D} {n : Nat} {K : jj_K} {I : jj_I} {P : jj_P} {G : jj_G} (hly : ly K P) {H M B N s c : Nat} {C : jj_I} (hs : sf 0 H M B N C) (hk : sk 0 H M B N C) (hm : ml 0 H M B N C I) (hz : mz M C I) (hc : nI B - sm (q_bi 0 3 C) B = nI c) (hs2 : sm (fun b => C (aB 0 b) 1) B = nI s) (hc2 : c < 11) (hs3 : s < 201) (h30 : ∀ b, b < B → C (aB 0 b) 3 = 3 → C (aB 0 b) 1 = 0) :
    jj_Met l D yX6_mean (jj_ws yX6_mean cX6_mean 3 (some .double)) { frames := 2, cells := 0, slots := 0, locals := 44 } [.ref 150] n K I P G (jj_R (some (.double (if c = 0 then FP.dconst0 else FP.ddiv (FP.i2d (nI s)) (FP.i2d (nI c))))) (n) (K) ((jj_u I 150 0 0)) (P) (G)) jj_noX := by
  refine jj_of hfl (by decide +kernel) [some (.ref 150), none, none] rfl rfl ?_
  intro X hXl hX hSt
  have z := sf_Z hs
  have hm0 : ml 0 H M B N C (jj_u I 150 0 0) := ml_th hm z
  have hz0 : mz M C (jj_u I 150 0 0) := mz_th hz
  have hH0 := hm0.1.1
  have hM0 := hm0.1.2.1
  have hB0 := hm0.1.2.2.1
  have hN0 := hm0.1.2.2.2
  have hH2 := hs.1.2
  have hM2 := z.1
  have hB2 := z.2.1
  have hN2 := z.2.2
  refine jr_aload_n hX dX6_mean_0 rfl ?_
  refine jr_iconst (v := 0) hX dX6_mean_1 (by decide) ?_
  refine jr_puti hX kF_X6_40 rfl (ly_kMo hly) (by decide) dX6_mean_2 ?_
  refine jr_iconst (v := 0) hX dX6_mean_5 (by decide) ?_
  refine jr_istore_n hX dX6_mean_6 rfl ?_
  refine jr_iconst (v := 0) hX dX6_mean_7 (by decide) ?_
  refine jr_istore_n hX dX6_mean_8 rfl ?_
  have hloop : ∀ j, j ≤ B → jj_J X D 3 0 0 (jj_MQ X D { frames := 2, cells := 0, slots := 0, locals := 44 } (jj_R (some (.double (if c = 0 then FP.dconst0 else FP.ddiv (FP.i2d (nI s)) (FP.i2d (nI c))))) (n) (K) ((jj_u I 150 0 0)) (P) (G)) jj_noX) (n) (K) ((jj_u I 150 0 0)) (P) (G) 9 [some (.ref 150), some (.int (sm (fun b => C (aB 0 b) 1) j)), some (.int (nI j))] [] := by
    refine jj_for (B) _ ?_ (fun j hj ih => ?_)
    · refine jr_iload_n hX dX6_mean_9 rfl ?_
      refine jr_aload_n hX dX6_mean_10 rfl ?_
      refine jr_geti hX kF_X6_54 rfl (ly_kMo hly) dX6_mean_11 ?_
      refine jr_icmp_ge (tgt := 46) hX dX6_mean_14 (by decide) (fun c_14 => ?_) (fun c_14 => absurd (by rw [hB0]; exact nI_le (Nat.le_refl _) (by omega)) c_14)
      refine jr_aload_n hX dX6_mean_46 rfl ?_
      refine jr_geti hX kF_X6_54 rfl (ly_kMo hly) dX6_mean_47 ?_
      rw [hB0]
      refine jr_aload_n hX dX6_mean_50 rfl ?_
      refine jr_ret (jr_runV hX hSt kM_X6_141 (c_sunk (jj_fl hX) hly hB0 hB2) rfl rfl (ly_kMo hly) ⟨_, _, rfl, by decide⟩ dX6_mean_51 rfl ⟨jj_b1 rfl, jj_b1 rfl⟩ rfl) ?_
      rw [jm_st hm0]
      refine jr_isub hX dX6_mean_54 ?_
      rw [hc]
      refine jr_istore_n hX dX6_mean_55 rfl ?_
      refine jr_iload_n hX dX6_mean_56 rfl ?_
      refine jr_if_ne (tgt := 64) hX dX6_mean_57 (by decide) (fun c_57 => ?_) (fun c_57 => ?_)
      · have c0 : c ≠ 0 := fun e => c_57 (by rw [e]; rfl)
        refine jr_iload_n hX dX6_mean_64 rfl ?_
        rw [hs2]
        refine jr_i2d hX dX6_mean_65 ?_
        refine jr_iload_n hX dX6_mean_66 rfl ?_
        refine jr_i2d hX dX6_mean_67 ?_
        refine jr_ddiv hX dX6_mean_68 (jl_div hs3 hc2 c0) ?_
        exact jr_dret hX dX6_mean_69 rfl rfl ⟨by rw [if_neg c0], rfl, rfl, rfl, rfl, rfl⟩
      · have c0 : c = 0 := Decidable.byContradiction (fun e => absurd c_57 (nI_ne0 (by omega) (by omega)))
        refine jr_dconst0 hX dX6_mean_60 ?_
        refine jr_goto (tgt := 69) hX dX6_mean_61 (by decide) ?_
        exact jr_dret hX dX6_mean_69 rfl rfl ⟨by rw [if_pos c0], rfl, rfl, rfl, rfl, rfl⟩
    · obtain ⟨q0, q1, q2, q3, -⟩ := ml_hB hm0 hj
      refine jr_iload_n hX dX6_mean_9 rfl ?_
      refine jr_aload_n hX dX6_mean_10 rfl ?_
      refine jr_geti hX kF_X6_54 rfl (ly_kMo hly) dX6_mean_11 ?_
      refine jr_icmp_ge (tgt := 46) hX dX6_mean_14 (by decide) (fun c_14 => absurd c_14 (by rw [hB0]; exact nI_ge (by assumption) (by omega))) (fun c_14 => ?_)
      refine jr_iload_n hX dX6_mean_17 rfl ?_
      refine jr_aload_n hX dX6_mean_18 rfl ?_
      refine jr_iload_n hX dX6_mean_19 rfl ?_
      refine jr_iconst (v := 3) hX dX6_mean_20 (by decide) ?_
      refine jr_ret (jr_runV hX hSt kM_X6_74 (c_bo (jj_fl hX) hly (b := j) (k := 3) (by omega) (show _ = nI 3 from rfl) (by decide)) rfl rfl (ly_kMo hly) ⟨_, _, rfl, by decide⟩ dX6_mean_21 rfl ⟨jj_b1 rfl, jj_b1 rfl⟩ rfl) ?_
      rw [q3]
      refine jr_iconst (v := 3) hX dX6_mean_24 (by decide) ?_
      refine jr_icmp_ne (tgt := 32) hX dX6_mean_25 (by decide) (fun c_25 => ?_) (fun c_25 => ?_)
      · refine jr_aload_n hX dX6_mean_32 rfl ?_
        refine jr_iload_n hX dX6_mean_33 rfl ?_
        refine jr_iconst (v := 1) hX dX6_mean_34 (by decide) ?_
        refine jr_ret (jr_runV hX hSt kM_X6_74 (c_bo (jj_fl hX) hly (b := j) (k := 1) (by omega) (show _ = nI 1 from rfl) (by decide)) rfl rfl (ly_kMo hly) ⟨_, _, rfl, by decide⟩ dX6_mean_35 rfl ⟨jj_b1 rfl, jj_b1 rfl⟩ rfl) ?_
        rw [q1]
        refine jr_iadd hX dX6_mean_38 ?_
        refine jr_istore_n hX dX6_mean_39 rfl ?_
        refine jr_iinc hX dX6_mean_40 rfl (by first | with_reducible exact jj_inc _ | with_reducible exact jj_inc1 _) rfl ?_
        refine jr_goto (tgt := 9) hX dX6_mean_43 (by decide) ?_
        exact ih
      · refine jr_iconst (v := 0) hX dX6_mean_28 (by decide) ?_
        refine jr_goto (tgt := 38) hX dX6_mean_29 (by decide) ?_
        refine jr_iadd hX dX6_mean_38 ?_
        refine jr_istore_n hX dX6_mean_39 rfl ?_
        refine jr_iinc hX dX6_mean_40 rfl (by first | with_reducible exact jj_inc _ | with_reducible exact jj_inc1 _) rfl ?_
        refine jr_goto (tgt := 9) hX dX6_mean_43 (by decide) ?_
        rw [sm_1 (f := (fun b => C (aB 0 b) 1)) (k := j) (h30 j hj c_25)] at ih
        exact ih
  exact hloop 0 (Nat.zero_le _)
