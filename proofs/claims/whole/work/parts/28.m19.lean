/-! the model's calls: each way that they end -/
theorem jm_nr {x lo hi : Int32} (h : x < lo ∨ hi < x) : ¬ (lo ≤ x ∧ x ≤ hi) := fun e => h.elim (fun q => absurd e.1 (Int32.not_le.mpr q)) (fun q => absurd e.2 (Int32.not_le.mpr q))
theorem jm_sub2 {H : Nat} (h : H ≤ 8) : nI H - 2 = nI (H - 1) - 1 ∨ H = 0 := by
  have hh : H = 0 ∨ H = 1 ∨ H = 2 ∨ H = 3 ∨ H = 4 ∨ H = 5 ∨ H = 6 ∨ H = 7 ∨ H = 8 := by omega
  rcases hh with rfl | rfl | rfl | rfl | rfl | rfl | rfl | rfl | rfl <;> first | exact Or.inl (by decide) | exact Or.inr rfl
theorem jm_i2 {a H : Nat} (h : a < H - 1) (hH : H ≤ 8) : 0 ≤ nI a ∧ nI a ≤ nI H - 2 := by
  rcases jm_sub2 hH with e | e
  · rw [e]; exact jm_i h (by omega)
  · omega
theorem jm_x2 {x : Int32} {H : Nat} (h : x < 0 ∨ nI (H - 1) ≤ x) (hH : H ≤ 8) : ¬ (0 ≤ x ∧ x ≤ nI H - 2) := by
  rcases jm_sub2 hH with e | e
  · rw [e]; exact jm_x h (by omega)
  · subst e
    rintro ⟨h1, h2⟩
    exact absurd (Int32.le_trans h1 h2) (by decide)
theorem jm_h1 {x : Int32} (h : x = 0 ∨ x = 1) : ¬ (if x < 2 then (1 : Int32) else 0) = 0 := by rcases h with rfl | rfl <;> decide
theorem jm_h0 {x : Int32} (hp : x = 0 ∨ x = 1 ∨ x = 2 ∨ x = 3) (h : ¬ (x = 0 ∨ x = 1)) : (if x < 2 then (1 : Int32) else 0) = 0 := by
  rcases hp with rfl | rfl | rfl | rfl
  · exact absurd (Or.inl rfl) h
  · exact absurd (Or.inr rfl) h
  · decide
  · decide
set_option maxHeartbeats 4000000 in
set_option maxRecDepth 100000 in
theorem m_harbour_x1 {l : Launch} (hfl : l.stackTraces = false) {D : jj_D} {n : Nat} {K : jj_K} {I : jj_I} {P : jj_P} {G : jj_G} (hly : ly K P) {H M B N : Nat} {C : jj_I} {h : Int32} {t : Int32} (hs : sf 0 H M B N C) (hk : sk 0 H M B N C) (hm : ml 0 H M B N C I) (hz : mz M C I) (h_h : h < 0 ∨ nI H ≤ h) :
    jj_Met l D yX6_harbour (jj_ws yX6_harbour cX6_harbour 3 (some .int)) { frames := 4, cells := 0, slots := 0, locals := 89 } [.ref 150, .int h, .int t] n K I P G (jj_R (some (.int 0)) (n) (K) (jj_u (jj_u I 150 0 0) 150 0 1) (P) (G)) jj_noX := by
  refine jj_of hfl (by decide +kernel) [some (.ref 150), some (.int h), some (.int t)] rfl rfl ?_
  intro X hXl hX hSt
  have z := sf_Z hs
  have hm0 : ml 0 H M B N C (jj_u I 150 0 0) := ml_th hm z
  have hz0 : mz M C (jj_u I 150 0 0) := mz_th hz
  have hH0 := hm0.1.1
  have hM0 := hm0.1.2.1
  have hB0 := hm0.1.2.2.1
  have hN0 := hm0.1.2.2.2
  have hH2 := hs.1.2
  have hM2 := z.1
  have hB2 := z.2.1
  have hN2 := z.2.2
  refine jr_aload_n hX dX6_harbour_0 rfl ?_
  refine jr_iconst (v := 0) hX dX6_harbour_1 (by decide) ?_
  refine jr_puti hX kF_X6_40 rfl (ly_kMo hly) (by decide) dX6_harbour_2 ?_
  refine jr_aload_n hX dX6_harbour_5 rfl ?_
  refine jr_iload_n hX dX6_harbour_6 rfl ?_
  refine jr_ret (jr_runV hX hSt kM_X6_61 (c_isHarbour_x (jj_fl hX) hly h_h hH0 (by omega)) rfl rfl (ly_kMo hly) ⟨_, _, rfl, by decide⟩ dX6_harbour_7 rfl ⟨jj_b1 rfl, jj_b1 rfl⟩ rfl) ?_
  refine jr_if_eq (tgt := 32) hX dX6_harbour_10 (by decide) (fun c_10 => ?_) (fun c_10 => absurd rfl c_10)
  refine jr_aload_n hX dX6_harbour_32 rfl ?_
  refine jr_iconst (v := 1) hX dX6_harbour_33 (by decide) ?_
  refine jr_ret (jr_runV hX hSt kM_X6_57 (c_fail (jj_fl hX) hly) rfl rfl (ly_kMo hly) ⟨_, _, rfl, by decide⟩ dX6_harbour_34 rfl ⟨jj_b1 rfl, jj_b1 rfl⟩ rfl) ?_
  exact jr_iret hX dX6_harbour_37 rfl rfl ⟨rfl, rfl, rfl, rfl, rfl, rfl⟩
set_option maxHeartbeats 4000000 in
set_option maxRecDepth 100000 in
theorem m_harbour_x2 {l : Launch} (hfl : l.stackTraces = false) {D : jj_D} {n : Nat} {K : jj_K} {I : jj_I} {P : jj_P} {G : jj_G} (hly : ly K P) {H M B N : Nat} {C : jj_I} {h : Nat} {t : Int32} (hs : sf 0 H M B N C) (hk : sk 0 H M B N C) (hm : ml 0 H M B N C I) (hz : mz M C I) (h_h : h < H) (h_t : t < 0 ∨ nI 8 ≤ t) :
    jj_Met l D yX6_harbour (jj_ws yX6_harbour cX6_harbour 3 (some .int)) { frames := 4, cells := 0, slots := 0, locals := 89 } [.ref 150, .int (nI h), .int t] n K I P G (jj_R (some (.int 0)) (n) (K) (jj_u (jj_u I 150 0 0) 150 0 1) (P) (G)) jj_noX := by
  refine jj_of hfl (by decide +kernel) [some (.ref 150), some (.int (nI h)), some (.int t)] rfl rfl ?_
  intro X hXl hX hSt
  have z := sf_Z hs
  have hm0 : ml 0 H M B N C (jj_u I 150 0 0) := ml_th hm z
  have hz0 : mz M C (jj_u I 150 0 0) := mz_th hz
  have hH0 := hm0.1.1
  have hM0 := hm0.1.2.1
  have hB0 := hm0.1.2.2.1
  have hN0 := hm0.1.2.2.2
  have hH2 := hs.1.2
  have hM2 := z.1
  have hB2 := z.2.1
  have hN2 := z.2.2
  refine jr_aload_n hX dX6_harbour_0 rfl ?_
  refine jr_iconst (v := 0) hX dX6_harbour_1 (by decide) ?_
  refine jr_puti hX kF_X6_40 rfl (ly_kMo hly) (by decide) dX6_harbour_2 ?_
  refine jr_aload_n hX dX6_harbour_5 rfl ?_
  refine jr_iload_n hX dX6_harbour_6 rfl ?_
  refine jr_ret (jr_runV hX hSt kM_X6_61 (c_isHarbour_ok (jj_fl hX) hly h_h hH0 (by omega)) rfl rfl (ly_kMo hly) ⟨_, _, rfl, by decide⟩ dX6_harbour_7 rfl ⟨jj_b1 rfl, jj_b1 rfl⟩ rfl) ?_
  refine jr_if_eq (tgt := 32) hX dX6_harbour_10 (by decide) (fun c_10 => absurd c_10 (by decide)) (fun c_10 => ?_)
  refine jr_iload_n hX dX6_harbour_13 rfl ?_
  refine jr_iconst (v := 0) hX dX6_harbour_14 (by decide) ?_
  refine jr_bipush (v := 7) hX dX6_harbour_15 (by decide) ?_
  refine jr_ret (jr_runS hX hSt kM_X6_47 (c_isIn_x (jj_fl hX) (jm_x (c := 8) h_t (by omega))) rfl rfl dX6_harbour_17 rfl ⟨jj_b1 rfl, jj_b1 rfl⟩ rfl) ?_
  refine jr_if_eq (tgt := 32) hX dX6_harbour_20 (by decide) (fun c_20 => ?_) (fun c_20 => absurd rfl c_20)
  refine jr_aload_n hX dX6_harbour_32 rfl ?_
  refine jr_iconst (v := 1) hX dX6_harbour_33 (by decide) ?_
  refine jr_ret (jr_runV hX hSt kM_X6_57 (c_fail (jj_fl hX) hly) rfl rfl (ly_kMo hly) ⟨_, _, rfl, by decide⟩ dX6_harbour_34 rfl ⟨jj_b1 rfl, jj_b1 rfl⟩ rfl) ?_
  exact jr_iret hX dX6_harbour_37 rfl rfl ⟨rfl, rfl, rfl, rfl, rfl, rfl⟩
set_option maxHeartbeats 4000000 in
set_option maxRecDepth 100000 in
theorem m_harbour_ok {l : Launch} (hfl : l.stackTraces = false) {D : jj_D} {n : Nat} {K : jj_K} {I : jj_I} {P : jj_P} {G : jj_G} (hly : ly K P) {H M B N : Nat} {C : jj_I} {h : Nat} {t : Nat} (hs : sf 0 H M B N C) (hk : sk 0 H M B N C) (hm : ml 0 H M B N C I) (hz : mz M C I) (h_h : h < H) (h_t : t < 8) :
    jj_Met l D yX6_harbour (jj_ws yX6_harbour cX6_harbour 3 (some .int)) { frames := 4, cells := 0, slots := 0, locals := 89 } [.ref 150, .int (nI h), .int (nI t)] n K I P G (jj_RS (fun r J => r = some (.int (q_hf h H B C t)) ∧ J 150 0 = 0 ∧ ml 0 H M B N (C) J ∧ mz (M) (C) J ∧ ∀ a, offN a → J a = I a) n K P G) jj_noX := by
  refine jj_of hfl (by decide +kernel) [some (.ref 150), some (.int (nI h)), some (.int (nI t))] rfl rfl ?_
  intro X hXl hX hSt
  have z := sf_Z hs
  have hm0 : ml 0 H M B N C (jj_u I 150 0 0) := ml_th hm z
  have hz0 : mz M C (jj_u I 150 0 0) := mz_th hz
  have hH0 := hm0.1.1
  have hM0 := hm0.1.2.1
  have hB0 := hm0.1.2.2.1
  have hN0 := hm0.1.2.2.2
  have hH2 := hs.1.2
  have hM2 := z.1
  have hB2 := z.2.1
  have hN2 := z.2.2
  refine jr_aload_n hX dX6_harbour_0 rfl ?_
  refine jr_iconst (v := 0) hX dX6_harbour_1 (by decide) ?_
  refine jr_puti hX kF_X6_40 rfl (ly_kMo hly) (by decide) dX6_harbour_2 ?_
  refine jr_aload_n hX dX6_harbour_5 rfl ?_
  refine jr_iload_n hX dX6_harbour_6 rfl ?_
  refine jr_ret (jr_runV hX hSt kM_X6_61 (c_isHarbour_ok (jj_fl hX) hly h_h hH0 (by omega)) rfl rfl (ly_kMo hly) ⟨_, _, rfl, by decide⟩ dX6_harbour_7 rfl ⟨jj_b1 rfl, jj_b1 rfl⟩ rfl) ?_
  refine jr_if_eq (tgt := 32) hX dX6_harbour_10 (by decide) (fun c_10 => absurd c_10 (by decide)) (fun c_10 => ?_)
  refine jr_iload_n hX dX6_harbour_13 rfl ?_
  refine jr_iconst (v := 0) hX dX6_harbour_14 (by decide) ?_
  refine jr_bipush (v := 7) hX dX6_harbour_15 (by decide) ?_
  refine jr_ret (jr_runS hX hSt kM_X6_47 (c_isIn_ok (jj_fl hX) (show (0 : Int32) ≤ nI t ∧ nI t ≤ nI 7 from ⟨nI_pos' (by omega), nI_le (by omega) (by omega)⟩)) rfl rfl dX6_harbour_17 rfl ⟨jj_b1 rfl, jj_b1 rfl⟩ rfl) ?_
  refine jr_if_eq (tgt := 32) hX dX6_harbour_20 (by decide) (fun c_20 => absurd c_20 (by decide)) (fun c_20 => ?_)
  refine jr_aload_n hX dX6_harbour_23 rfl ?_
  refine jr_iload_n hX dX6_harbour_24 rfl ?_
  refine jr_iload_n hX dX6_harbour_25 rfl ?_
  refine jr_ret (jr_runV hX hSt kM_X6_87 (c_mH (jj_fl hX) hly hH0 hH2 hB0 hB2 h_h h_t) rfl rfl (ly_kMo hly) ⟨_, _, rfl, by decide⟩ dX6_harbour_26 rfl ⟨jj_b1 rfl, jj_b1 rfl⟩ rfl) ?_
  rw [hf_eq hs hm0 h_h h_t]
  refine jr_goto (tgt := 37) hX dX6_harbour_29 (by decide) ?_
  exact jr_iret hX dX6_harbour_37 rfl rfl ⟨⟨rfl, jj_u_eq, hm0, hz0, fun a ha => jj_u_ne (by unfold offN at ha; omega)⟩, rfl, rfl, rfl, rfl⟩
set_option maxHeartbeats 4000000 in
set_option maxRecDepth 100000 in
theorem m_leg_x1 {l : Launch} (hfl : l.stackTraces = false) {D : jj_D} {n : Nat} {K : jj_K} {I : jj_I} {P : jj_P} {G : jj_G} (hly : ly K P) {H M B N : Nat} {C : jj_I} {h : Int32} {t : Int32} (hs : sf 0 H M B N C) (hk : sk 0 H M B N C) (hm : ml 0 H M B N C I) (hz : mz M C I) (h_h : h < 0 ∨ nI (H - 1) ≤ h) :
    jj_Met l D yX6_leg (jj_ws yX6_leg cX6_leg 3 (some .int)) { frames := 2, cells := 0, slots := 0, locals := 46 } [.ref 150, .int h, .int t] n K I P G (jj_R (some (.int 0)) (n) (K) (jj_u (jj_u I 150 0 0) 150 0 1) (P) (G)) jj_noX := by
  refine jj_of hfl (by decide +kernel) [some (.ref 150), some (.int h), some (.int t)] rfl rfl ?_
  intro X hXl hX hSt
  have z := sf_Z hs
  have hm0 : ml 0 H M B N C (jj_u I 150 0 0) := ml_th hm z
  have hz0 : mz M C (jj_u I 150 0 0) := mz_th hz
  have hH0 := hm0.1.1
  have hM0 := hm0.1.2.1
  have hB0 := hm0.1.2.2.1
  have hN0 := hm0.1.2.2.2
  have hH2 := hs.1.2
  have hM2 := z.1
  have hB2 := z.2.1
  have hN2 := z.2.2
  refine jr_aload_n hX dX6_leg_0 rfl ?_
  refine jr_iconst (v := 0) hX dX6_leg_1 (by decide) ?_
  refine jr_puti hX kF_X6_40 rfl (ly_kMo hly) (by decide) dX6_leg_2 ?_
  refine jr_iload_n hX dX6_leg_5 rfl ?_
  refine jr_iconst (v := 0) hX dX6_leg_6 (by decide) ?_
  refine jr_aload_n hX dX6_leg_7 rfl ?_
  refine jr_geti hX kF_X6_44 rfl (ly_kMo hly) dX6_leg_8 ?_
  refine jr_iconst (v := 2) hX dX6_leg_11 (by decide) ?_
  refine jr_isub hX dX6_leg_12 ?_
  rw [hH0]
  refine jr_ret (jr_runS hX hSt kM_X6_47 (c_isIn_x (jj_fl hX) (jm_x2 h_h hH2)) rfl rfl dX6_leg_13 rfl ⟨jj_b1 rfl, jj_b1 rfl⟩ rfl) ?_
  refine jr_if_eq (tgt := 37) hX dX6_leg_16 (by decide) (fun c_16 => ?_) (fun c_16 => absurd rfl c_16)
  refine jr_aload_n hX dX6_leg_37 rfl ?_
  refine jr_iconst (v := 1) hX dX6_leg_38 (by decide) ?_
  refine jr_ret (jr_runV hX hSt kM_X6_57 (c_fail (jj_fl hX) hly) rfl rfl (ly_kMo hly) ⟨_, _, rfl, by decide⟩ dX6_leg_39 rfl ⟨jj_b1 rfl, jj_b1 rfl⟩ rfl) ?_
  exact jr_iret hX dX6_leg_42 rfl rfl ⟨rfl, rfl, rfl, rfl, rfl, rfl⟩
set_option maxHeartbeats 4000000 in
set_option maxRecDepth 100000 in
theorem m_leg_x2 {l : Launch} (hfl : l.stackTraces = false) {D : jj_D} {n : Nat} {K : jj_K} {I : jj_I} {P : jj_P} {G : jj_G} (hly : ly K P) {H M B N : Nat} {C : jj_I} {h : Nat} {t : Int32} (hs : sf 0 H M B N C) (hk : sk 0 H M B N C) (hm : ml 0 H M B N C I) (hz : mz M C I) (h_h : h < H - 1) (h_t : t < 0 ∨ nI 4 ≤ t) :
    jj_Met l D yX6_leg (jj_ws yX6_leg cX6_leg 3 (some .int)) { frames := 2, cells := 0, slots := 0, locals := 46 } [.ref 150, .int (nI h), .int t] n K I P G (jj_R (some (.int 0)) (n) (K) (jj_u (jj_u I 150 0 0) 150 0 1) (P) (G)) jj_noX := by
  refine jj_of hfl (by decide +kernel) [some (.ref 150), some (.int (nI h)), some (.int t)] rfl rfl ?_
  intro X hXl hX hSt
  have z := sf_Z hs
  have hm0 : ml 0 H M B N C (jj_u I 150 0 0) := ml_th hm z
  have hz0 : mz M C (jj_u I 150 0 0) := mz_th hz
  have hH0 := hm0.1.1
  have hM0 := hm0.1.2.1
  have hB0 := hm0.1.2.2.1
  have hN0 := hm0.1.2.2.2
  have hH2 := hs.1.2
  have hM2 := z.1
  have hB2 := z.2.1
  have hN2 := z.2.2
  refine jr_aload_n hX dX6_leg_0 rfl ?_
  refine jr_iconst (v := 0) hX dX6_leg_1 (by decide) ?_
  refine jr_puti hX kF_X6_40 rfl (ly_kMo hly) (by decide) dX6_leg_2 ?_
  refine jr_iload_n hX dX6_leg_5 rfl ?_
  refine jr_iconst (v := 0) hX dX6_leg_6 (by decide) ?_
  refine jr_aload_n hX dX6_leg_7 rfl ?_
  refine jr_geti hX kF_X6_44 rfl (ly_kMo hly) dX6_leg_8 ?_
  refine jr_iconst (v := 2) hX dX6_leg_11 (by decide) ?_
  refine jr_isub hX dX6_leg_12 ?_
  rw [hH0]
  refine jr_ret (jr_runS hX hSt kM_X6_47 (c_isIn_ok (jj_fl hX) (jm_i2 h_h hH2)) rfl rfl dX6_leg_13 rfl ⟨jj_b1 rfl, jj_b1 rfl⟩ rfl) ?_
  refine jr_if_eq (tgt := 37) hX dX6_leg_16 (by decide) (fun c_16 => absurd c_16 (by decide)) (fun c_16 => ?_)
  refine jr_iload_n hX dX6_leg_19 rfl ?_
  refine jr_iconst (v := 0) hX dX6_leg_20 (by decide) ?_
  refine jr_iconst (v := 3) hX dX6_leg_21 (by decide) ?_
  refine jr_ret (jr_runS hX hSt kM_X6_47 (c_isIn_x (jj_fl hX) (jm_x (c := 4) h_t (by omega))) rfl rfl dX6_leg_22 rfl ⟨jj_b1 rfl, jj_b1 rfl⟩ rfl) ?_
  refine jr_if_eq (tgt := 37) hX dX6_leg_25 (by decide) (fun c_25 => ?_) (fun c_25 => absurd rfl c_25)
  refine jr_aload_n hX dX6_leg_37 rfl ?_
  refine jr_iconst (v := 1) hX dX6_leg_38 (by decide) ?_
  refine jr_ret (jr_runV hX hSt kM_X6_57 (c_fail (jj_fl hX) hly) rfl rfl (ly_kMo hly) ⟨_, _, rfl, by decide⟩ dX6_leg_39 rfl ⟨jj_b1 rfl, jj_b1 rfl⟩ rfl) ?_
  exact jr_iret hX dX6_leg_42 rfl rfl ⟨rfl, rfl, rfl, rfl, rfl, rfl⟩
set_option maxHeartbeats 4000000 in
set_option maxRecDepth 100000 in
theorem m_leg_ok {l : Launch} (hfl : l.stackTraces = false) {D : jj_D} {n : Nat} {K : jj_K} {I : jj_I} {P : jj_P} {G : jj_G} (hly : ly K P) {H M B N : Nat} {C : jj_I} {h : Nat} {t : Nat} (hs : sf 0 H M B N C) (hk : sk 0 H M B N C) (hm : ml 0 H M B N C I) (hz : mz M C I) (h_h : h < H - 1) (h_t : t < 4) :
    jj_Met l D yX6_leg (jj_ws yX6_leg cX6_leg 3 (some .int)) { frames := 2, cells := 0, slots := 0, locals := 46 } [.ref 150, .int (nI h), .int (nI t)] n K I P G (jj_RS (fun r J => r = some (.int (q_lf h B C t)) ∧ J 150 0 = 0 ∧ ml 0 H M B N (C) J ∧ mz (M) (C) J ∧ ∀ a, offN a → J a = I a) n K P G) jj_noX := by
  refine jj_of hfl (by decide +kernel) [some (.ref 150), some (.int (nI h)), some (.int (nI t))] rfl rfl ?_
  intro X hXl hX hSt
  have z := sf_Z hs
  have hm0 : ml 0 H M B N C (jj_u I 150 0 0) := ml_th hm z
  have hz0 : mz M C (jj_u I 150 0 0) := mz_th hz
  have hH0 := hm0.1.1
  have hM0 := hm0.1.2.1
  have hB0 := hm0.1.2.2.1
  have hN0 := hm0.1.2.2.2
  have hH2 := hs.1.2
  have hM2 := z.1
  have hB2 := z.2.1
  have hN2 := z.2.2
  refine jr_aload_n hX dX6_leg_0 rfl ?_
  refine jr_iconst (v := 0) hX dX6_leg_1 (by decide) ?_
  refine jr_puti hX kF_X6_40 rfl (ly_kMo hly) (by decide) dX6_leg_2 ?_
  refine jr_iload_n hX dX6_leg_5 rfl ?_
  refine jr_iconst (v := 0) hX dX6_leg_6 (by decide) ?_
  refine jr_aload_n hX dX6_leg_7 rfl ?_
  refine jr_geti hX kF_X6_44 rfl (ly_kMo hly) dX6_leg_8 ?_
  refine jr_iconst (v := 2) hX dX6_leg_11 (by decide) ?_
  refine jr_isub hX dX6_leg_12 ?_
  rw [hH0]
  refine jr_ret (jr_runS hX hSt kM_X6_47 (c_isIn_ok (jj_fl hX) (jm_i2 h_h hH2)) rfl rfl dX6_leg_13 rfl ⟨jj_b1 rfl, jj_b1 rfl⟩ rfl) ?_
  refine jr_if_eq (tgt := 37) hX dX6_leg_16 (by decide) (fun c_16 => absurd c_16 (by decide)) (fun c_16 => ?_)
  refine jr_iload_n hX dX6_leg_19 rfl ?_
  refine jr_iconst (v := 0) hX dX6_leg_20 (by decide) ?_
  refine jr_iconst (v := 3) hX dX6_leg_21 (by decide) ?_
  refine jr_ret (jr_runS hX hSt kM_X6_47 (c_isIn_ok (jj_fl hX) (show (0 : Int32) ≤ nI t ∧ nI t ≤ nI 3 from ⟨nI_pos' (by omega), nI_le (by omega) (by omega)⟩)) rfl rfl dX6_leg_22 rfl ⟨jj_b1 rfl, jj_b1 rfl⟩ rfl) ?_
  refine jr_if_eq (tgt := 37) hX dX6_leg_25 (by decide) (fun c_25 => absurd c_25 (by decide)) (fun c_25 => ?_)
  refine jr_aload_n hX dX6_leg_28 rfl ?_
  refine jr_iload_n hX dX6_leg_29 rfl ?_
  refine jr_iload_n hX dX6_leg_30 rfl ?_
  refine jr_ret (jr_runV hX hSt kM_X6_93 (c_mL (jj_fl hX) hly hB0 hB2 (by omega) h_t) rfl rfl (ly_kMo hly) ⟨_, _, rfl, by decide⟩ dX6_leg_31 rfl ⟨jj_b1 rfl, jj_b1 rfl⟩ rfl) ?_
  rw [lf_eq hm0 (by omega)]
  refine jr_goto (tgt := 42) hX dX6_leg_34 (by decide) ?_
  exact jr_iret hX dX6_leg_42 rfl rfl ⟨⟨rfl, jj_u_eq, hm0, hz0, fun a ha => jj_u_ne (by unfold offN at ha; omega)⟩, rfl, rfl, rfl, rfl⟩
set_option maxHeartbeats 4000000 in
set_option maxRecDepth 100000 in
theorem m_merchant_x1 {l : Launch} (hfl : l.stackTraces = false) {D : jj_D} {n : Nat} {K : jj_K} {I : jj_I} {P : jj_P} {G : jj_G} (hly : ly K P) {H M B N : Nat} {C : jj_I} {m : Int32} {t : Int32} (hs : sf 0 H M B N C) (hk : sk 0 H M B N C) (hm : ml 0 H M B N C I) (hz : mz M C I) (h_m : m < 0 ∨ nI M ≤ m) :
    jj_Met l D yX6_merchant (jj_ws yX6_merchant cX6_merchant 3 (some .int)) { frames := 3, cells := 0, slots := 0, locals := 69 } [.ref 150, .int m, .int t] n K I P G (jj_R (some (.int 0)) (n) (K) (jj_u (jj_u I 150 0 0) 150 0 1) (P) (G)) jj_noX := by
  refine jj_of hfl (by decide +kernel) [some (.ref 150), some (.int m), some (.int t)] rfl rfl ?_
  intro X hXl hX hSt
  have z := sf_Z hs
  have hm0 : ml 0 H M B N C (jj_u I 150 0 0) := ml_th hm z
  have hz0 : mz M C (jj_u I 150 0 0) := mz_th hz
  have hH0 := hm0.1.1
  have hM0 := hm0.1.2.1
  have hB0 := hm0.1.2.2.1
  have hN0 := hm0.1.2.2.2
  have hH2 := hs.1.2
  have hM2 := z.1
  have hB2 := z.2.1
  have hN2 := z.2.2
  refine jr_aload_n hX dX6_merchant_0 rfl ?_
  refine jr_iconst (v := 0) hX dX6_merchant_1 (by decide) ?_
  refine jr_puti hX kF_X6_40 rfl (ly_kMo hly) (by decide) dX6_merchant_2 ?_
  refine jr_aload_n hX dX6_merchant_5 rfl ?_
  refine jr_iload_n hX dX6_merchant_6 rfl ?_
  refine jr_ret (jr_runV hX hSt kM_X6_96 (c_isMerchant_x (jj_fl hX) hly h_m hM0 (by omega)) rfl rfl (ly_kMo hly) ⟨_, _, rfl, by decide⟩ dX6_merchant_7 rfl ⟨jj_b1 rfl, jj_b1 rfl⟩ rfl) ?_
  refine jr_if_eq (tgt := 31) hX dX6_merchant_10 (by decide) (fun c_10 => ?_) (fun c_10 => absurd rfl c_10)
  refine jr_aload_n hX dX6_merchant_31 rfl ?_
  refine jr_iconst (v := 1) hX dX6_merchant_32 (by decide) ?_
  refine jr_ret (jr_runV hX hSt kM_X6_57 (c_fail (jj_fl hX) hly) rfl rfl (ly_kMo hly) ⟨_, _, rfl, by decide⟩ dX6_merchant_33 rfl ⟨jj_b1 rfl, jj_b1 rfl⟩ rfl) ?_
  exact jr_iret hX dX6_merchant_36 rfl rfl ⟨rfl, rfl, rfl, rfl, rfl, rfl⟩
set_option maxHeartbeats 4000000 in
set_option maxRecDepth 100000 in
theorem m_merchant_x2 {l : Launch} (hfl : l.stackTraces = false) {D : jj_D} {n : Nat} {K : jj_K} {I : jj_I} {P : jj_P} {G : jj_G} (hly : ly K P) {H M B N : Nat} {C : jj_I} {m : Nat} {t : Int32} (hs : sf 0 H M B N C) (hk : sk 0 H M B N C) (hm : ml 0 H M B N C I) (hz : mz M C I) (h_m : m < M) (h_t : t < 0 ∨ nI 6 ≤ t) :
    jj_Met l D yX6_merchant (jj_ws yX6_merchant cX6_merchant 3 (some .int)) { frames := 3, cells := 0, slots := 0, locals := 69 } [.ref 150, .int (nI m), .int t] n K I P G (jj_R (some (.int 0)) (n) (K) (jj_u (jj_u I 150 0 0) 150 0 1) (P) (G)) jj_noX := by
  refine jj_of hfl (by decide +kernel) [some (.ref 150), some (.int (nI m)), some (.int t)] rfl rfl ?_
  intro X hXl hX hSt
  have z := sf_Z hs
  have hm0 : ml 0 H M B N C (jj_u I 150 0 0) := ml_th hm z
  have hz0 : mz M C (jj_u I 150 0 0) := mz_th hz
  have hH0 := hm0.1.1
  have hM0 := hm0.1.2.1
  have hB0 := hm0.1.2.2.1
  have hN0 := hm0.1.2.2.2
  have hH2 := hs.1.2
  have hM2 := z.1
  have hB2 := z.2.1
  have hN2 := z.2.2
  refine jr_aload_n hX dX6_merchant_0 rfl ?_
  refine jr_iconst (v := 0) hX dX6_merchant_1 (by decide) ?_
  refine jr_puti hX kF_X6_40 rfl (ly_kMo hly) (by decide) dX6_merchant_2 ?_
  refine jr_aload_n hX dX6_merchant_5 rfl ?_
  refine jr_iload_n hX dX6_merchant_6 rfl ?_
  refine jr_ret (jr_runV hX hSt kM_X6_96 (c_isMerchant_ok (jj_fl hX) hly h_m hM0 (by omega)) rfl rfl (ly_kMo hly) ⟨_, _, rfl, by decide⟩ dX6_merchant_7 rfl ⟨jj_b1 rfl, jj_b1 rfl⟩ rfl) ?_
  refine jr_if_eq (tgt := 31) hX dX6_merchant_10 (by decide) (fun c_10 => absurd c_10 (by decide)) (fun c_10 => ?_)
  refine jr_iload_n hX dX6_merchant_13 rfl ?_
  refine jr_iconst (v := 0) hX dX6_merchant_14 (by decide) ?_
  refine jr_iconst (v := 5) hX dX6_merchant_15 (by decide) ?_
  refine jr_ret (jr_runS hX hSt kM_X6_47 (c_isIn_x (jj_fl hX) (jm_x (c := 6) h_t (by omega))) rfl rfl dX6_merchant_16 rfl ⟨jj_b1 rfl, jj_b1 rfl⟩ rfl) ?_
  refine jr_if_eq (tgt := 31) hX dX6_merchant_19 (by decide) (fun c_19 => ?_) (fun c_19 => absurd rfl c_19)
  refine jr_aload_n hX dX6_merchant_31 rfl ?_
  refine jr_iconst (v := 1) hX dX6_merchant_32 (by decide) ?_
  refine jr_ret (jr_runV hX hSt kM_X6_57 (c_fail (jj_fl hX) hly) rfl rfl (ly_kMo hly) ⟨_, _, rfl, by decide⟩ dX6_merchant_33 rfl ⟨jj_b1 rfl, jj_b1 rfl⟩ rfl) ?_
  exact jr_iret hX dX6_merchant_36 rfl rfl ⟨rfl, rfl, rfl, rfl, rfl, rfl⟩
set_option maxHeartbeats 4000000 in
set_option maxRecDepth 100000 in
theorem m_merchant_ok {l : Launch} (hfl : l.stackTraces = false) {D : jj_D} {n : Nat} {K : jj_K} {I : jj_I} {P : jj_P} {G : jj_G} (hly : ly K P) {H M B N : Nat} {C : jj_I} {m : Nat} {t : Nat} (hs : sf 0 H M B N C) (hk : sk 0 H M B N C) (hm : ml 0 H M B N C I) (hz : mz M C I) (h_m : m < M) (h_t : t < 6) :
    jj_Met l D yX6_merchant (jj_ws yX6_merchant cX6_merchant 3 (some .int)) { frames := 3, cells := 0, slots := 0, locals := 69 } [.ref 150, .int (nI m), .int (nI t)] n K I P G (jj_RS (fun r J => r = some (.int (q_mf m B N C t)) ∧ J 150 0 = 0 ∧ ml 0 H M B N (C) J ∧ mz (M) (C) J ∧ ∀ a, offN a → J a = I a) n K P G) jj_noX := by
  refine jj_of hfl (by decide +kernel) [some (.ref 150), some (.int (nI m)), some (.int (nI t))] rfl rfl ?_
  intro X hXl hX hSt
  have z := sf_Z hs
  have hm0 : ml 0 H M B N C (jj_u I 150 0 0) := ml_th hm z
  have hz0 : mz M C (jj_u I 150 0 0) := mz_th hz
  have hH0 := hm0.1.1
  have hM0 := hm0.1.2.1
  have hB0 := hm0.1.2.2.1
  have hN0 := hm0.1.2.2.2
  have hH2 := hs.1.2
  have hM2 := z.1
  have hB2 := z.2.1
  have hN2 := z.2.2
  refine jr_aload_n hX dX6_merchant_0 rfl ?_
  refine jr_iconst (v := 0) hX dX6_merchant_1 (by decide) ?_
  refine jr_puti hX kF_X6_40 rfl (ly_kMo hly) (by decide) dX6_merchant_2 ?_
  refine jr_aload_n hX dX6_merchant_5 rfl ?_
  refine jr_iload_n hX dX6_merchant_6 rfl ?_
  refine jr_ret (jr_runV hX hSt kM_X6_96 (c_isMerchant_ok (jj_fl hX) hly h_m hM0 (by omega)) rfl rfl (ly_kMo hly) ⟨_, _, rfl, by decide⟩ dX6_merchant_7 rfl ⟨jj_b1 rfl, jj_b1 rfl⟩ rfl) ?_
  refine jr_if_eq (tgt := 31) hX dX6_merchant_10 (by decide) (fun c_10 => absurd c_10 (by decide)) (fun c_10 => ?_)
  refine jr_iload_n hX dX6_merchant_13 rfl ?_
  refine jr_iconst (v := 0) hX dX6_merchant_14 (by decide) ?_
  refine jr_iconst (v := 5) hX dX6_merchant_15 (by decide) ?_
  refine jr_ret (jr_runS hX hSt kM_X6_47 (c_isIn_ok (jj_fl hX) (show (0 : Int32) ≤ nI t ∧ nI t ≤ nI 5 from ⟨nI_pos' (by omega), nI_le (by omega) (by omega)⟩)) rfl rfl dX6_merchant_16 rfl ⟨jj_b1 rfl, jj_b1 rfl⟩ rfl) ?_
  refine jr_if_eq (tgt := 31) hX dX6_merchant_19 (by decide) (fun c_19 => absurd c_19 (by decide)) (fun c_19 => ?_)
  refine jr_aload_n hX dX6_merchant_22 rfl ?_
  refine jr_iload_n hX dX6_merchant_23 rfl ?_
  refine jr_iload_n hX dX6_merchant_24 rfl ?_
  refine jr_ret (jr_runV hX hSt kM_X6_112 (c_mM (jj_fl hX) hly hB0 hB2 hN0 hN2 (by omega) h_t) rfl rfl (ly_kMo hly) ⟨_, _, rfl, by decide⟩ dX6_merchant_25 rfl ⟨jj_b1 rfl, jj_b1 rfl⟩ rfl) ?_
  rw [mf_eq hm0 h_m]
  refine jr_goto (tgt := 36) hX dX6_merchant_28 (by decide) ?_
  exact jr_iret hX dX6_merchant_36 rfl rfl ⟨⟨rfl, jj_u_eq, hm0, hz0, fun a ha => jj_u_ne (by unfold offN at ha; omega)⟩, rfl, rfl, rfl, rfl⟩
set_option maxHeartbeats 4000000 in
set_option maxRecDepth 100000 in
theorem m_boat_x1 {l : Launch} (hfl : l.stackTraces = false) {D : jj_D} {n : Nat} {K : jj_K} {I : jj_I} {P : jj_P} {G : jj_G} (hly : ly K P) {H M B N : Nat} {C : jj_I} {b : Int32} {t : Int32} (hs : sf 0 H M B N C) (hk : sk 0 H M B N C) (hm : ml 0 H M B N C I) (hz : mz M C I) (h_b : b < 0 ∨ nI B ≤ b) :
    jj_Met l D yX6_boat (jj_ws yX6_boat cX6_boat 3 (some .int)) { frames := 3, cells := 0, slots := 0, locals := 67 } [.ref 150, .int b, .int t] n K I P G (jj_R (some (.int 0)) (n) (K) (jj_u (jj_u I 150 0 0) 150 0 1) (P) (G)) jj_noX := by
  refine jj_of hfl (by decide +kernel) [some (.ref 150), some (.int b), some (.int t)] rfl rfl ?_
  intro X hXl hX hSt
  have z := sf_Z hs
  have hm0 : ml 0 H M B N C (jj_u I 150 0 0) := ml_th hm z
  have hz0 : mz M C (jj_u I 150 0 0) := mz_th hz
  have hH0 := hm0.1.1
  have hM0 := hm0.1.2.1
  have hB0 := hm0.1.2.2.1
  have hN0 := hm0.1.2.2.2
  have hH2 := hs.1.2
  have hM2 := z.1
  have hB2 := z.2.1
  have hN2 := z.2.2
  refine jr_aload_n hX dX6_boat_0 rfl ?_
  refine jr_iconst (v := 0) hX dX6_boat_1 (by decide) ?_
  refine jr_puti hX kF_X6_40 rfl (ly_kMo hly) (by decide) dX6_boat_2 ?_
  refine jr_aload_n hX dX6_boat_5 rfl ?_
  refine jr_iload_n hX dX6_boat_6 rfl ?_
  refine jr_ret (jr_runV hX hSt kM_X6_121 (c_isBoat_x (jj_fl hX) hly h_b hB0 (by omega)) rfl rfl (ly_kMo hly) ⟨_, _, rfl, by decide⟩ dX6_boat_7 rfl ⟨jj_b1 rfl, jj_b1 rfl⟩ rfl) ?_
  refine jr_if_eq (tgt := 32) hX dX6_boat_10 (by decide) (fun c_10 => ?_) (fun c_10 => absurd rfl c_10)
  refine jr_aload_n hX dX6_boat_32 rfl ?_
  refine jr_iconst (v := 1) hX dX6_boat_33 (by decide) ?_
  refine jr_ret (jr_runV hX hSt kM_X6_57 (c_fail (jj_fl hX) hly) rfl rfl (ly_kMo hly) ⟨_, _, rfl, by decide⟩ dX6_boat_34 rfl ⟨jj_b1 rfl, jj_b1 rfl⟩ rfl) ?_
  exact jr_iret hX dX6_boat_37 rfl rfl ⟨rfl, rfl, rfl, rfl, rfl, rfl⟩
set_option maxHeartbeats 4000000 in
set_option maxRecDepth 100000 in
theorem m_boat_x2 {l : Launch} (hfl : l.stackTraces = false) {D : jj_D} {n : Nat} {K : jj_K} {I : jj_I} {P : jj_P} {G : jj_G} (hly : ly K P) {H M B N : Nat} {C : jj_I} {b : Nat} {t : Int32} (hs : sf 0 H M B N C) (hk : sk 0 H M B N C) (hm : ml 0 H M B N C I) (hz : mz M C I) (h_b : b < B) (h_t : t < 0 ∨ nI 12 ≤ t) :
    jj_Met l D yX6_boat (jj_ws yX6_boat cX6_boat 3 (some .int)) { frames := 3, cells := 0, slots := 0, locals := 67 } [.ref 150, .int (nI b), .int t] n K I P G (jj_R (some (.int 0)) (n) (K) (jj_u (jj_u I 150 0 0) 150 0 1) (P) (G)) jj_noX := by
  refine jj_of hfl (by decide +kernel) [some (.ref 150), some (.int (nI b)), some (.int t)] rfl rfl ?_
  intro X hXl hX hSt
  have z := sf_Z hs
  have hm0 : ml 0 H M B N C (jj_u I 150 0 0) := ml_th hm z
  have hz0 : mz M C (jj_u I 150 0 0) := mz_th hz
  have hH0 := hm0.1.1
  have hM0 := hm0.1.2.1
  have hB0 := hm0.1.2.2.1
  have hN0 := hm0.1.2.2.2
  have hH2 := hs.1.2
  have hM2 := z.1
  have hB2 := z.2.1
  have hN2 := z.2.2
  refine jr_aload_n hX dX6_boat_0 rfl ?_
  refine jr_iconst (v := 0) hX dX6_boat_1 (by decide) ?_
  refine jr_puti hX kF_X6_40 rfl (ly_kMo hly) (by decide) dX6_boat_2 ?_
  refine jr_aload_n hX dX6_boat_5 rfl ?_
  refine jr_iload_n hX dX6_boat_6 rfl ?_
  refine jr_ret (jr_runV hX hSt kM_X6_121 (c_isBoat_ok (jj_fl hX) hly h_b hB0 (by omega)) rfl rfl (ly_kMo hly) ⟨_, _, rfl, by decide⟩ dX6_boat_7 rfl ⟨jj_b1 rfl, jj_b1 rfl⟩ rfl) ?_
  refine jr_if_eq (tgt := 32) hX dX6_boat_10 (by decide) (fun c_10 => absurd c_10 (by decide)) (fun c_10 => ?_)
  refine jr_iload_n hX dX6_boat_13 rfl ?_
  refine jr_iconst (v := 0) hX dX6_boat_14 (by decide) ?_
  refine jr_bipush (v := 11) hX dX6_boat_15 (by decide) ?_
  refine jr_ret (jr_runS hX hSt kM_X6_47 (c_isIn_x (jj_fl hX) (jm_x (c := 12) h_t (by omega))) rfl rfl dX6_boat_17 rfl ⟨jj_b1 rfl, jj_b1 rfl⟩ rfl) ?_
  refine jr_if_eq (tgt := 32) hX dX6_boat_20 (by decide) (fun c_20 => ?_) (fun c_20 => absurd rfl c_20)
  refine jr_aload_n hX dX6_boat_32 rfl ?_
  refine jr_iconst (v := 1) hX dX6_boat_33 (by decide) ?_
  refine jr_ret (jr_runV hX hSt kM_X6_57 (c_fail (jj_fl hX) hly) rfl rfl (ly_kMo hly) ⟨_, _, rfl, by decide⟩ dX6_boat_34 rfl ⟨jj_b1 rfl, jj_b1 rfl⟩ rfl) ?_
  exact jr_iret hX dX6_boat_37 rfl rfl ⟨rfl, rfl, rfl, rfl, rfl, rfl⟩
set_option maxHeartbeats 4000000 in
set_option maxRecDepth 100000 in
theorem m_boat_ok {l : Launch} (hfl : l.stackTraces = false) {D : jj_D} {n : Nat} {K : jj_K} {I : jj_I} {P : jj_P} {G : jj_G} (hly : ly K P) {H M B N : Nat} {C : jj_I} {b : Nat} {t : Nat} (hs : sf 0 H M B N C) (hk : sk 0 H M B N C) (hm : ml 0 H M B N C I) (hz : mz M C I) (h_b : b < B) (h_t : t < 12) :
    jj_Met l D yX6_boat (jj_ws yX6_boat cX6_boat 3 (some .int)) { frames := 3, cells := 0, slots := 0, locals := 67 } [.ref 150, .int (nI b), .int (nI t)] n K I P G (jj_RS (fun r J => r = some (.int (q_bf b C t)) ∧ J 150 0 = 0 ∧ ml 0 H M B N (C) J ∧ mz (M) (C) J ∧ ∀ a, offN a → J a = I a) n K P G) jj_noX := by
  refine jj_of hfl (by decide +kernel) [some (.ref 150), some (.int (nI b)), some (.int (nI t))] rfl rfl ?_
  intro X hXl hX hSt
  have z := sf_Z hs
  have hm0 : ml 0 H M B N C (jj_u I 150 0 0) := ml_th hm z
  have hz0 : mz M C (jj_u I 150 0 0) := mz_th hz
  have hH0 := hm0.1.1
  have hM0 := hm0.1.2.1
  have hB0 := hm0.1.2.2.1
  have hN0 := hm0.1.2.2.2
  have hH2 := hs.1.2
  have hM2 := z.1
  have hB2 := z.2.1
  have hN2 := z.2.2
  refine jr_aload_n hX dX6_boat_0 rfl ?_
  refine jr_iconst (v := 0) hX dX6_boat_1 (by decide) ?_
  refine jr_puti hX kF_X6_40 rfl (ly_kMo hly) (by decide) dX6_boat_2 ?_
  refine jr_aload_n hX dX6_boat_5 rfl ?_
  refine jr_iload_n hX dX6_boat_6 rfl ?_
  refine jr_ret (jr_runV hX hSt kM_X6_121 (c_isBoat_ok (jj_fl hX) hly h_b hB0 (by omega)) rfl rfl (ly_kMo hly) ⟨_, _, rfl, by decide⟩ dX6_boat_7 rfl ⟨jj_b1 rfl, jj_b1 rfl⟩ rfl) ?_
  refine jr_if_eq (tgt := 32) hX dX6_boat_10 (by decide) (fun c_10 => absurd c_10 (by decide)) (fun c_10 => ?_)
  refine jr_iload_n hX dX6_boat_13 rfl ?_
  refine jr_iconst (v := 0) hX dX6_boat_14 (by decide) ?_
  refine jr_bipush (v := 11) hX dX6_boat_15 (by decide) ?_
  refine jr_ret (jr_runS hX hSt kM_X6_47 (c_isIn_ok (jj_fl hX) (show (0 : Int32) ≤ nI t ∧ nI t ≤ nI 11 from ⟨nI_pos' (by omega), nI_le (by omega) (by omega)⟩)) rfl rfl dX6_boat_17 rfl ⟨jj_b1 rfl, jj_b1 rfl⟩ rfl) ?_
  refine jr_if_eq (tgt := 32) hX dX6_boat_20 (by decide) (fun c_20 => absurd c_20 (by decide)) (fun c_20 => ?_)
  refine jr_aload_n hX dX6_boat_23 rfl ?_
  refine jr_iload_n hX dX6_boat_24 rfl ?_
  refine jr_iload_n hX dX6_boat_25 rfl ?_
  refine jr_ret (jr_runV hX hSt kM_X6_134 (c_mB (jj_fl hX) hly (by omega) h_t) rfl rfl (ly_kMo hly) ⟨_, _, rfl, by decide⟩ dX6_boat_26 rfl ⟨jj_b1 rfl, jj_b1 rfl⟩ rfl) ?_
  rw [bf_eq hm0 h_b h_t]
  refine jr_goto (tgt := 37) hX dX6_boat_29 (by decide) ?_
  exact jr_iret hX dX6_boat_37 rfl rfl ⟨⟨rfl, jj_u_eq, hm0, hz0, fun a ha => jj_u_ne (by unfold offN at ha; omega)⟩, rfl, rfl, rfl, rfl⟩
set_option maxHeartbeats 4000000 in
set_option maxRecDepth 100000 in
theorem m_debt_x1 {l : Launch} (hfl : l.stackTraces = false) {D : jj_D} {n : Nat} {K : jj_K} {I : jj_I} {P : jj_P} {G : jj_G} (hly : ly K P) {H M B N : Nat} {C : jj_I} {k : Int32} {t : Int32} (hs : sf 0 H M B N C) (hk : sk 0 H M B N C) (hm : ml 0 H M B N C I) (hz : mz M C I) (h_k : k < 0 ∨ nI N ≤ k) :
    jj_Met l D yX6_debt (jj_ws yX6_debt cX6_debt 3 (some .int)) { frames := 1, cells := 0, slots := 0, locals := 22 } [.ref 150, .int k, .int t] n K I P G (jj_R (some (.int 0)) (n) (K) (jj_u (jj_u I 150 0 0) 150 0 1) (P) (G)) jj_noX := by
  refine jj_of hfl (by decide +kernel) [some (.ref 150), some (.int k), some (.int t)] rfl rfl ?_
  intro X hXl hX hSt
  have z := sf_Z hs
  have hm0 : ml 0 H M B N C (jj_u I 150 0 0) := ml_th hm z
  have hz0 : mz M C (jj_u I 150 0 0) := mz_th hz
  have hH0 := hm0.1.1
  have hM0 := hm0.1.2.1
  have hB0 := hm0.1.2.2.1
  have hN0 := hm0.1.2.2.2
  have hH2 := hs.1.2
  have hM2 := z.1
  have hB2 := z.2.1
  have hN2 := z.2.2
  refine jr_aload_n hX dX6_debt_0 rfl ?_
  refine jr_iconst (v := 0) hX dX6_debt_1 (by decide) ?_
  refine jr_puti hX kF_X6_40 rfl (ly_kMo hly) (by decide) dX6_debt_2 ?_
  refine jr_iload_n hX dX6_debt_5 rfl ?_
  refine jr_iconst (v := 0) hX dX6_debt_6 (by decide) ?_
  refine jr_aload_n hX dX6_debt_7 rfl ?_
  refine jr_geti hX kF_X6_106 rfl (ly_kMo hly) dX6_debt_8 ?_
  refine jr_iconst (v := 1) hX dX6_debt_11 (by decide) ?_
  refine jr_isub hX dX6_debt_12 ?_
  rw [hN0]
  refine jr_ret (jr_runS hX hSt kM_X6_47 (c_isIn_x (jj_fl hX) (jm_x h_k (by omega))) rfl rfl dX6_debt_13 rfl ⟨jj_b1 rfl, jj_b1 rfl⟩ rfl) ?_
  refine jr_if_eq (tgt := 38) hX dX6_debt_16 (by decide) (fun c_16 => ?_) (fun c_16 => absurd rfl c_16)
  refine jr_aload_n hX dX6_debt_38 rfl ?_
  refine jr_iconst (v := 1) hX dX6_debt_39 (by decide) ?_
  refine jr_ret (jr_runV hX hSt kM_X6_57 (c_fail (jj_fl hX) hly) rfl rfl (ly_kMo hly) ⟨_, _, rfl, by decide⟩ dX6_debt_40 rfl ⟨jj_b1 rfl, jj_b1 rfl⟩ rfl) ?_
  exact jr_iret hX dX6_debt_43 rfl rfl ⟨rfl, rfl, rfl, rfl, rfl, rfl⟩
set_option maxHeartbeats 4000000 in
set_option maxRecDepth 100000 in
theorem m_debt_x2 {l : Launch} (hfl : l.stackTraces = false) {D : jj_D} {n : Nat} {K : jj_K} {I : jj_I} {P : jj_P} {G : jj_G} (hly : ly K P) {H M B N : Nat} {C : jj_I} {k : Nat} {t : Int32} (hs : sf 0 H M B N C) (hk : sk 0 H M B N C) (hm : ml 0 H M B N C I) (hz : mz M C I) (h_k : k < N) (h_t : t < 0 ∨ nI 7 ≤ t) :
    jj_Met l D yX6_debt (jj_ws yX6_debt cX6_debt 3 (some .int)) { frames := 1, cells := 0, slots := 0, locals := 22 } [.ref 150, .int (nI k), .int t] n K I P G (jj_R (some (.int 0)) (n) (K) (jj_u (jj_u I 150 0 0) 150 0 1) (P) (G)) jj_noX := by
  refine jj_of hfl (by decide +kernel) [some (.ref 150), some (.int (nI k)), some (.int t)] rfl rfl ?_
  intro X hXl hX hSt
  have z := sf_Z hs
  have hm0 : ml 0 H M B N C (jj_u I 150 0 0) := ml_th hm z
  have hz0 : mz M C (jj_u I 150 0 0) := mz_th hz
  have hH0 := hm0.1.1
  have hM0 := hm0.1.2.1
  have hB0 := hm0.1.2.2.1
  have hN0 := hm0.1.2.2.2
  have hH2 := hs.1.2
  have hM2 := z.1
  have hB2 := z.2.1
  have hN2 := z.2.2
  refine jr_aload_n hX dX6_debt_0 rfl ?_
  refine jr_iconst (v := 0) hX dX6_debt_1 (by decide) ?_
  refine jr_puti hX kF_X6_40 rfl (ly_kMo hly) (by decide) dX6_debt_2 ?_
  refine jr_iload_n hX dX6_debt_5 rfl ?_
  refine jr_iconst (v := 0) hX dX6_debt_6 (by decide) ?_
  refine jr_aload_n hX dX6_debt_7 rfl ?_
  refine jr_geti hX kF_X6_106 rfl (ly_kMo hly) dX6_debt_8 ?_
  refine jr_iconst (v := 1) hX dX6_debt_11 (by decide) ?_
  refine jr_isub hX dX6_debt_12 ?_
  rw [hN0]
  refine jr_ret (jr_runS hX hSt kM_X6_47 (c_isIn_ok (jj_fl hX) (jm_i h_k (by omega))) rfl rfl dX6_debt_13 rfl ⟨jj_b1 rfl, jj_b1 rfl⟩ rfl) ?_
  refine jr_if_eq (tgt := 38) hX dX6_debt_16 (by decide) (fun c_16 => absurd c_16 (by decide)) (fun c_16 => ?_)
  refine jr_iload_n hX dX6_debt_19 rfl ?_
  refine jr_iconst (v := 0) hX dX6_debt_20 (by decide) ?_
  refine jr_bipush (v := 6) hX dX6_debt_21 (by decide) ?_
  refine jr_ret (jr_runS hX hSt kM_X6_47 (c_isIn_x (jj_fl hX) (jm_x (c := 7) h_t (by omega))) rfl rfl dX6_debt_23 rfl ⟨jj_b1 rfl, jj_b1 rfl⟩ rfl) ?_
  refine jr_if_eq (tgt := 38) hX dX6_debt_26 (by decide) (fun c_26 => ?_) (fun c_26 => absurd rfl c_26)
  refine jr_aload_n hX dX6_debt_38 rfl ?_
  refine jr_iconst (v := 1) hX dX6_debt_39 (by decide) ?_
  refine jr_ret (jr_runV hX hSt kM_X6_57 (c_fail (jj_fl hX) hly) rfl rfl (ly_kMo hly) ⟨_, _, rfl, by decide⟩ dX6_debt_40 rfl ⟨jj_b1 rfl, jj_b1 rfl⟩ rfl) ?_
  exact jr_iret hX dX6_debt_43 rfl rfl ⟨rfl, rfl, rfl, rfl, rfl, rfl⟩
set_option maxHeartbeats 4000000 in
set_option maxRecDepth 100000 in
theorem m_debt_ok {l : Launch} (hfl : l.stackTraces = false) {D : jj_D} {n : Nat} {K : jj_K} {I : jj_I} {P : jj_P} {G : jj_G} (hly : ly K P) {H M B N : Nat} {C : jj_I} {k : Nat} {t : Nat} (hs : sf 0 H M B N C) (hk : sk 0 H M B N C) (hm : ml 0 H M B N C I) (hz : mz M C I) (h_k : k < N) (h_t : t < 7) :
    jj_Met l D yX6_debt (jj_ws yX6_debt cX6_debt 3 (some .int)) { frames := 1, cells := 0, slots := 0, locals := 22 } [.ref 150, .int (nI k), .int (nI t)] n K I P G (jj_RS (fun r J => r = some (.int (C (aD 0 k) t)) ∧ J 150 0 = 0 ∧ ml 0 H M B N (C) J ∧ mz (M) (C) J ∧ ∀ a, offN a → J a = I a) n K P G) jj_noX := by
  refine jj_of hfl (by decide +kernel) [some (.ref 150), some (.int (nI k)), some (.int (nI t))] rfl rfl ?_
  intro X hXl hX hSt
  have z := sf_Z hs
  have hm0 : ml 0 H M B N C (jj_u I 150 0 0) := ml_th hm z
  have hz0 : mz M C (jj_u I 150 0 0) := mz_th hz
  have hH0 := hm0.1.1
  have hM0 := hm0.1.2.1
  have hB0 := hm0.1.2.2.1
  have hN0 := hm0.1.2.2.2
  have hH2 := hs.1.2
  have hM2 := z.1
  have hB2 := z.2.1
  have hN2 := z.2.2
  refine jr_aload_n hX dX6_debt_0 rfl ?_
  refine jr_iconst (v := 0) hX dX6_debt_1 (by decide) ?_
  refine jr_puti hX kF_X6_40 rfl (ly_kMo hly) (by decide) dX6_debt_2 ?_
  refine jr_iload_n hX dX6_debt_5 rfl ?_
  refine jr_iconst (v := 0) hX dX6_debt_6 (by decide) ?_
  refine jr_aload_n hX dX6_debt_7 rfl ?_
  refine jr_geti hX kF_X6_106 rfl (ly_kMo hly) dX6_debt_8 ?_
  refine jr_iconst (v := 1) hX dX6_debt_11 (by decide) ?_
  refine jr_isub hX dX6_debt_12 ?_
  rw [hN0]
  refine jr_ret (jr_runS hX hSt kM_X6_47 (c_isIn_ok (jj_fl hX) (jm_i h_k (by omega))) rfl rfl dX6_debt_13 rfl ⟨jj_b1 rfl, jj_b1 rfl⟩ rfl) ?_
  refine jr_if_eq (tgt := 38) hX dX6_debt_16 (by decide) (fun c_16 => absurd c_16 (by decide)) (fun c_16 => ?_)
  refine jr_iload_n hX dX6_debt_19 rfl ?_
  refine jr_iconst (v := 0) hX dX6_debt_20 (by decide) ?_
  refine jr_bipush (v := 6) hX dX6_debt_21 (by decide) ?_
  refine jr_ret (jr_runS hX hSt kM_X6_47 (c_isIn_ok (jj_fl hX) (show (0 : Int32) ≤ nI t ∧ nI t ≤ nI 6 from ⟨nI_pos' (by omega), nI_le (by omega) (by omega)⟩)) rfl rfl dX6_debt_23 rfl ⟨jj_b1 rfl, jj_b1 rfl⟩ rfl) ?_
  refine jr_if_eq (tgt := 38) hX dX6_debt_26 (by decide) (fun c_26 => absurd c_26 (by decide)) (fun c_26 => ?_)
  refine jr_aload_n hX dX6_debt_29 rfl ?_
  refine jr_iload_n hX dX6_debt_30 rfl ?_
  refine jr_iload_n hX dX6_debt_31 rfl ?_
  refine jr_ret (jr_runV hX hSt kM_X6_109 (c_de (jj_fl hX) hly (by omega) rfl h_t) rfl rfl (ly_kMo hly) ⟨_, _, rfl, by decide⟩ dX6_debt_32 rfl ⟨jj_b1 rfl, jj_b1 rfl⟩ rfl) ?_
  rw [ml_hDebt hm0 h_k h_t]
  refine jr_goto (tgt := 43) hX dX6_debt_35 (by decide) ?_
  exact jr_iret hX dX6_debt_43 rfl rfl ⟨⟨rfl, jj_u_eq, hm0, hz0, fun a ha => jj_u_ne (by unfold offN at ha; omega)⟩, rfl, rfl, rfl, rfl⟩
set_option maxHeartbeats 4000000 in
set_option maxRecDepth 100000 in
theorem m_count_x1 {l : Launch} (hfl : l.stackTraces = false) {D : jj_D} {n : Nat} {K : jj_K} {I : jj_I} {P : jj_P} {G : jj_G} (hly : ly K P) {H M B N : Nat} {C : jj_I} {t : Int32} (hs : sf 0 H M B N C) (hk : sk 0 H M B N C) (hm : ml 0 H M B N C I) (hz : mz M C I) (h_t : t < 0 ∨ nI 10 ≤ t) :
    jj_Met l D yX6_count (jj_ws yX6_count cX6_count 2 (some .int)) { frames := 3, cells := 0, slots := 0, locals := 70 } [.ref 150, .int t] n K I P G (jj_R (some (.int 0)) (n) (K) (jj_u (jj_u I 150 0 0) 150 0 1) (P) (G)) jj_noX := by
  refine jj_of hfl (by decide +kernel) [some (.ref 150), some (.int t)] rfl rfl ?_
  intro X hXl hX hSt
  have z := sf_Z hs
  have hm0 : ml 0 H M B N C (jj_u I 150 0 0) := ml_th hm z
  have hz0 : mz M C (jj_u I 150 0 0) := mz_th hz
  have hH0 := hm0.1.1
  have hM0 := hm0.1.2.1
  have hB0 := hm0.1.2.2.1
  have hN0 := hm0.1.2.2.2
  have hH2 := hs.1.2
  have hM2 := z.1
  have hB2 := z.2.1
  have hN2 := z.2.2
  refine jr_aload_n hX dX6_count_0 rfl ?_
  refine jr_iconst (v := 0) hX dX6_count_1 (by decide) ?_
  refine jr_puti hX kF_X6_40 rfl (ly_kMo hly) (by decide) dX6_count_2 ?_
  refine jr_iload_n hX dX6_count_5 rfl ?_
  refine jr_iconst (v := 0) hX dX6_count_6 (by decide) ?_
  refine jr_bipush (v := 9) hX dX6_count_7 (by decide) ?_
  refine jr_ret (jr_runS hX hSt kM_X6_47 (c_isIn_x (jj_fl hX) (jm_x (c := 10) h_t (by omega))) rfl rfl dX6_count_9 rfl ⟨jj_b1 rfl, jj_b1 rfl⟩ rfl) ?_
  refine jr_if_eq (tgt := 23) hX dX6_count_12 (by decide) (fun c_12 => ?_) (fun c_12 => absurd rfl c_12)
  refine jr_aload_n hX dX6_count_23 rfl ?_
  refine jr_iconst (v := 1) hX dX6_count_24 (by decide) ?_
  refine jr_ret (jr_runV hX hSt kM_X6_57 (c_fail (jj_fl hX) hly) rfl rfl (ly_kMo hly) ⟨_, _, rfl, by decide⟩ dX6_count_25 rfl ⟨jj_b1 rfl, jj_b1 rfl⟩ rfl) ?_
  exact jr_iret hX dX6_count_28 rfl rfl ⟨rfl, rfl, rfl, rfl, rfl, rfl⟩
set_option maxHeartbeats 4000000 in
set_option maxRecDepth 100000 in
theorem m_count_ok {l : Launch} (hfl : l.stackTraces = false) {D : jj_D} {n : Nat} {K : jj_K} {I : jj_I} {P : jj_P} {G : jj_G} (hly : ly K P) {H M B N : Nat} {C : jj_I} {t : Nat} (hs : sf 0 H M B N C) (hk : sk 0 H M B N C) (hm : ml 0 H M B N C I) (hz : mz M C I) (h_t : t < 10) :
    jj_Met l D yX6_count (jj_ws yX6_count cX6_count 2 (some .int)) { frames := 3, cells := 0, slots := 0, locals := 70 } [.ref 150, .int (nI t)] n K I P G (jj_RS (fun r J => r = some (.int (q_cf H M B N C t)) ∧ J 150 0 = 0 ∧ ml 0 H M B N (C) J ∧ mz (M) (C) J ∧ ∀ a, offN a → J a = I a) n K P G) jj_noX := by
  refine jj_of hfl (by decide +kernel) [some (.ref 150), some (.int (nI t))] rfl rfl ?_
  intro X hXl hX hSt
  have z := sf_Z hs
  have hm0 : ml 0 H M B N C (jj_u I 150 0 0) := ml_th hm z
  have hz0 : mz M C (jj_u I 150 0 0) := mz_th hz
  have hH0 := hm0.1.1
  have hM0 := hm0.1.2.1
  have hB0 := hm0.1.2.2.1
  have hN0 := hm0.1.2.2.2
  have hH2 := hs.1.2
  have hM2 := z.1
  have hB2 := z.2.1
  have hN2 := z.2.2
  refine jr_aload_n hX dX6_count_0 rfl ?_
  refine jr_iconst (v := 0) hX dX6_count_1 (by decide) ?_
  refine jr_puti hX kF_X6_40 rfl (ly_kMo hly) (by decide) dX6_count_2 ?_
  refine jr_iload_n hX dX6_count_5 rfl ?_
  refine jr_iconst (v := 0) hX dX6_count_6 (by decide) ?_
  refine jr_bipush (v := 9) hX dX6_count_7 (by decide) ?_
  refine jr_ret (jr_runS hX hSt kM_X6_47 (c_isIn_ok (jj_fl hX) (show (0 : Int32) ≤ nI t ∧ nI t ≤ nI 9 from ⟨nI_pos' (by omega), nI_le (by omega) (by omega)⟩)) rfl rfl dX6_count_9 rfl ⟨jj_b1 rfl, jj_b1 rfl⟩ rfl) ?_
  refine jr_if_eq (tgt := 23) hX dX6_count_12 (by decide) (fun c_12 => absurd c_12 (by decide)) (fun c_12 => ?_)
  refine jr_aload_n hX dX6_count_15 rfl ?_
  refine jr_iload_n hX dX6_count_16 rfl ?_
  refine jr_ret (jr_runV hX hSt kM_X6_155 (c_mC (jj_fl hX) hly hH0 hH2 hM0 hM2 hB0 hB2 hN0 hN2 h_t) rfl rfl (ly_kMo hly) ⟨_, _, rfl, by decide⟩ dX6_count_17 rfl ⟨jj_b1 rfl, jj_b1 rfl⟩ rfl) ?_
  rw [cf_eq hs hm0 hk hz0]
  refine jr_goto (tgt := 28) hX dX6_count_20 (by decide) ?_
  exact jr_iret hX dX6_count_28 rfl rfl ⟨⟨rfl, jj_u_eq, hm0, hz0, fun a ha => jj_u_ne (by unfold offN at ha; omega)⟩, rfl, rfl, rfl, rfl⟩
set_option maxHeartbeats 4000000 in
set_option maxRecDepth 100000 in
theorem m_stock_x1 {l : Launch} (hfl : l.stackTraces = false) {D : jj_D} {n : Nat} {K : jj_K} {I : jj_I} {P : jj_P} {G : jj_G} (hly : ly K P) {H M B N : Nat} {C : jj_I} {m : Int32} {h : Int32} {g : Int32} (hs : sf 0 H M B N C) (hk : sk 0 H M B N C) (hm : ml 0 H M B N C I) (hz : mz M C I) (h_m : m < 0 ∨ nI M ≤ m) :
    jj_Met l D yX6_stock (jj_ws yX6_stock cX6_stock 4 (some .int)) { frames := 2, cells := 0, slots := 0, locals := 43 } [.ref 150, .int m, .int h, .int g] n K I P G (jj_R (some (.int 0)) (n) (K) (jj_u (jj_u I 150 0 0) 150 0 1) (P) (G)) jj_noX := by
  refine jj_of hfl (by decide +kernel) [some (.ref 150), some (.int m), some (.int h), some (.int g)] rfl rfl ?_
  intro X hXl hX hSt
  have z := sf_Z hs
  have hm0 : ml 0 H M B N C (jj_u I 150 0 0) := ml_th hm z
  have hz0 : mz M C (jj_u I 150 0 0) := mz_th hz
  have hH0 := hm0.1.1
  have hM0 := hm0.1.2.1
  have hB0 := hm0.1.2.2.1
  have hN0 := hm0.1.2.2.2
  have hH2 := hs.1.2
  have hM2 := z.1
  have hB2 := z.2.1
  have hN2 := z.2.2
  refine jr_aload_n hX dX6_stock_0 rfl ?_
  refine jr_iconst (v := 0) hX dX6_stock_1 (by decide) ?_
  refine jr_puti hX kF_X6_40 rfl (ly_kMo hly) (by decide) dX6_stock_2 ?_
  refine jr_aload_n hX dX6_stock_5 rfl ?_
  refine jr_iload_n hX dX6_stock_6 rfl ?_
  refine jr_ret (jr_runV hX hSt kM_X6_96 (c_isMerchant_x (jj_fl hX) hly h_m hM0 (by omega)) rfl rfl (ly_kMo hly) ⟨_, _, rfl, by decide⟩ dX6_stock_7 rfl ⟨jj_b1 rfl, jj_b1 rfl⟩ rfl) ?_
  refine jr_if_eq (tgt := 42) hX dX6_stock_10 (by decide) (fun c_10 => ?_) (fun c_10 => absurd rfl c_10)
  refine jr_aload_n hX dX6_stock_42 rfl ?_
  refine jr_iconst (v := 1) hX dX6_stock_43 (by decide) ?_
  refine jr_ret (jr_runV hX hSt kM_X6_57 (c_fail (jj_fl hX) hly) rfl rfl (ly_kMo hly) ⟨_, _, rfl, by decide⟩ dX6_stock_44 rfl ⟨jj_b1 rfl, jj_b1 rfl⟩ rfl) ?_
  exact jr_iret hX dX6_stock_47 rfl rfl ⟨rfl, rfl, rfl, rfl, rfl, rfl⟩
set_option maxHeartbeats 4000000 in
set_option maxRecDepth 100000 in
theorem m_stock_x2 {l : Launch} (hfl : l.stackTraces = false) {D : jj_D} {n : Nat} {K : jj_K} {I : jj_I} {P : jj_P} {G : jj_G} (hly : ly K P) {H M B N : Nat} {C : jj_I} {m : Nat} {h : Int32} {g : Int32} (hs : sf 0 H M B N C) (hk : sk 0 H M B N C) (hm : ml 0 H M B N C I) (hz : mz M C I) (h_m : m < M) (h_h : h < 0 ∨ nI H ≤ h) :
    jj_Met l D yX6_stock (jj_ws yX6_stock cX6_stock 4 (some .int)) { frames := 2, cells := 0, slots := 0, locals := 43 } [.ref 150, .int (nI m), .int h, .int g] n K I P G (jj_R (some (.int 0)) (n) (K) (jj_u (jj_u I 150 0 0) 150 0 1) (P) (G)) jj_noX := by
  refine jj_of hfl (by decide +kernel) [some (.ref 150), some (.int (nI m)), some (.int h), some (.int g)] rfl rfl ?_
  intro X hXl hX hSt
  have z := sf_Z hs
  have hm0 : ml 0 H M B N C (jj_u I 150 0 0) := ml_th hm z
  have hz0 : mz M C (jj_u I 150 0 0) := mz_th hz
  have hH0 := hm0.1.1
  have hM0 := hm0.1.2.1
  have hB0 := hm0.1.2.2.1
  have hN0 := hm0.1.2.2.2
  have hH2 := hs.1.2
  have hM2 := z.1
  have hB2 := z.2.1
  have hN2 := z.2.2
  refine jr_aload_n hX dX6_stock_0 rfl ?_
  refine jr_iconst (v := 0) hX dX6_stock_1 (by decide) ?_
  refine jr_puti hX kF_X6_40 rfl (ly_kMo hly) (by decide) dX6_stock_2 ?_
  refine jr_aload_n hX dX6_stock_5 rfl ?_
  refine jr_iload_n hX dX6_stock_6 rfl ?_
  refine jr_ret (jr_runV hX hSt kM_X6_96 (c_isMerchant_ok (jj_fl hX) hly h_m hM0 (by omega)) rfl rfl (ly_kMo hly) ⟨_, _, rfl, by decide⟩ dX6_stock_7 rfl ⟨jj_b1 rfl, jj_b1 rfl⟩ rfl) ?_
  refine jr_if_eq (tgt := 42) hX dX6_stock_10 (by decide) (fun c_10 => absurd c_10 (by decide)) (fun c_10 => ?_)
  refine jr_aload_n hX dX6_stock_13 rfl ?_
  refine jr_iload_n hX dX6_stock_14 rfl ?_
  refine jr_ret (jr_runV hX hSt kM_X6_61 (c_isHarbour_x (jj_fl hX) hly h_h hH0 (by omega)) rfl rfl (ly_kMo hly) ⟨_, _, rfl, by decide⟩ dX6_stock_15 rfl ⟨jj_b1 rfl, jj_b1 rfl⟩ rfl) ?_
  refine jr_if_eq (tgt := 42) hX dX6_stock_18 (by decide) (fun c_18 => ?_) (fun c_18 => absurd rfl c_18)
  refine jr_aload_n hX dX6_stock_42 rfl ?_
  refine jr_iconst (v := 1) hX dX6_stock_43 (by decide) ?_
  refine jr_ret (jr_runV hX hSt kM_X6_57 (c_fail (jj_fl hX) hly) rfl rfl (ly_kMo hly) ⟨_, _, rfl, by decide⟩ dX6_stock_44 rfl ⟨jj_b1 rfl, jj_b1 rfl⟩ rfl) ?_
  exact jr_iret hX dX6_stock_47 rfl rfl ⟨rfl, rfl, rfl, rfl, rfl, rfl⟩
set_option maxHeartbeats 4000000 in
set_option maxRecDepth 100000 in
theorem m_stock_x3 {l : Launch} (hfl : l.stackTraces = false) {D : jj_D} {n : Nat} {K : jj_K} {I : jj_I} {P : jj_P} {G : jj_G} (hly : ly K P) {H M B N : Nat} {C : jj_I} {m : Nat} {h : Nat} {g : Int32} (hs : sf 0 H M B N C) (hk : sk 0 H M B N C) (hm : ml 0 H M B N C I) (hz : mz M C I) (h_m : m < M) (h_h : h < H) (h_g : g < 0 ∨ nI 4 ≤ g) :
    jj_Met l D yX6_stock (jj_ws yX6_stock cX6_stock 4 (some .int)) { frames := 2, cells := 0, slots := 0, locals := 43 } [.ref 150, .int (nI m), .int (nI h), .int g] n K I P G (jj_R (some (.int 0)) (n) (K) (jj_u (jj_u I 150 0 0) 150 0 1) (P) (G)) jj_noX := by
  refine jj_of hfl (by decide +kernel) [some (.ref 150), some (.int (nI m)), some (.int (nI h)), some (.int g)] rfl rfl ?_
  intro X hXl hX hSt
  have z := sf_Z hs
  have hm0 : ml 0 H M B N C (jj_u I 150 0 0) := ml_th hm z
  have hz0 : mz M C (jj_u I 150 0 0) := mz_th hz
  have hH0 := hm0.1.1
  have hM0 := hm0.1.2.1
  have hB0 := hm0.1.2.2.1
  have hN0 := hm0.1.2.2.2
  have hH2 := hs.1.2
  have hM2 := z.1
  have hB2 := z.2.1
  have hN2 := z.2.2
  refine jr_aload_n hX dX6_stock_0 rfl ?_
  refine jr_iconst (v := 0) hX dX6_stock_1 (by decide) ?_
  refine jr_puti hX kF_X6_40 rfl (ly_kMo hly) (by decide) dX6_stock_2 ?_
  refine jr_aload_n hX dX6_stock_5 rfl ?_
  refine jr_iload_n hX dX6_stock_6 rfl ?_
  refine jr_ret (jr_runV hX hSt kM_X6_96 (c_isMerchant_ok (jj_fl hX) hly h_m hM0 (by omega)) rfl rfl (ly_kMo hly) ⟨_, _, rfl, by decide⟩ dX6_stock_7 rfl ⟨jj_b1 rfl, jj_b1 rfl⟩ rfl) ?_
  refine jr_if_eq (tgt := 42) hX dX6_stock_10 (by decide) (fun c_10 => absurd c_10 (by decide)) (fun c_10 => ?_)
  refine jr_aload_n hX dX6_stock_13 rfl ?_
  refine jr_iload_n hX dX6_stock_14 rfl ?_
  refine jr_ret (jr_runV hX hSt kM_X6_61 (c_isHarbour_ok (jj_fl hX) hly h_h hH0 (by omega)) rfl rfl (ly_kMo hly) ⟨_, _, rfl, by decide⟩ dX6_stock_15 rfl ⟨jj_b1 rfl, jj_b1 rfl⟩ rfl) ?_
  refine jr_if_eq (tgt := 42) hX dX6_stock_18 (by decide) (fun c_18 => absurd c_18 (by decide)) (fun c_18 => ?_)
  refine jr_iload_n hX dX6_stock_21 rfl ?_
  refine jr_ret (jr_runS hX hSt kM_X6_65 (c_isGood_x (jj_fl hX) h_g) rfl rfl dX6_stock_22 rfl ⟨jj_b1 rfl, jj_b1 rfl⟩ rfl) ?_
  refine jr_if_eq (tgt := 42) hX dX6_stock_25 (by decide) (fun c_25 => ?_) (fun c_25 => absurd rfl c_25)
  refine jr_aload_n hX dX6_stock_42 rfl ?_
  refine jr_iconst (v := 1) hX dX6_stock_43 (by decide) ?_
  refine jr_ret (jr_runV hX hSt kM_X6_57 (c_fail (jj_fl hX) hly) rfl rfl (ly_kMo hly) ⟨_, _, rfl, by decide⟩ dX6_stock_44 rfl ⟨jj_b1 rfl, jj_b1 rfl⟩ rfl) ?_
  exact jr_iret hX dX6_stock_47 rfl rfl ⟨rfl, rfl, rfl, rfl, rfl, rfl⟩
set_option maxHeartbeats 4000000 in
set_option maxRecDepth 100000 in
theorem m_stock_ok {l : Launch} (hfl : l.stackTraces = false) {D : jj_D} {n : Nat} {K : jj_K} {I : jj_I} {P : jj_P} {G : jj_G} (hly : ly K P) {H M B N : Nat} {C : jj_I} {m : Nat} {h : Nat} {g : Nat} (hs : sf 0 H M B N C) (hk : sk 0 H M B N C) (hm : ml 0 H M B N C I) (hz : mz M C I) (h_m : m < M) (h_h : h < H) (h_g : g < 4) :
    jj_Met l D yX6_stock (jj_ws yX6_stock cX6_stock 4 (some .int)) { frames := 2, cells := 0, slots := 0, locals := 43 } [.ref 150, .int (nI m), .int (nI h), .int (nI g)] n K I P G (jj_RS (fun r J => r = some (.int (C (aMt 0 m) (h * 4 + g))) ∧ J 150 0 = 0 ∧ ml 0 H M B N (C) J ∧ mz (M) (C) J ∧ ∀ a, offN a → J a = I a) n K P G) jj_noX := by
  refine jj_of hfl (by decide +kernel) [some (.ref 150), some (.int (nI m)), some (.int (nI h)), some (.int (nI g))] rfl rfl ?_
  intro X hXl hX hSt
  have z := sf_Z hs
  have hm0 : ml 0 H M B N C (jj_u I 150 0 0) := ml_th hm z
  have hz0 : mz M C (jj_u I 150 0 0) := mz_th hz
  have hH0 := hm0.1.1
  have hM0 := hm0.1.2.1
  have hB0 := hm0.1.2.2.1
  have hN0 := hm0.1.2.2.2
  have hH2 := hs.1.2
  have hM2 := z.1
  have hB2 := z.2.1
  have hN2 := z.2.2
  refine jr_aload_n hX dX6_stock_0 rfl ?_
  refine jr_iconst (v := 0) hX dX6_stock_1 (by decide) ?_
  refine jr_puti hX kF_X6_40 rfl (ly_kMo hly) (by decide) dX6_stock_2 ?_
  refine jr_aload_n hX dX6_stock_5 rfl ?_
  refine jr_iload_n hX dX6_stock_6 rfl ?_
  refine jr_ret (jr_runV hX hSt kM_X6_96 (c_isMerchant_ok (jj_fl hX) hly h_m hM0 (by omega)) rfl rfl (ly_kMo hly) ⟨_, _, rfl, by decide⟩ dX6_stock_7 rfl ⟨jj_b1 rfl, jj_b1 rfl⟩ rfl) ?_
  refine jr_if_eq (tgt := 42) hX dX6_stock_10 (by decide) (fun c_10 => absurd c_10 (by decide)) (fun c_10 => ?_)
  refine jr_aload_n hX dX6_stock_13 rfl ?_
  refine jr_iload_n hX dX6_stock_14 rfl ?_
  refine jr_ret (jr_runV hX hSt kM_X6_61 (c_isHarbour_ok (jj_fl hX) hly h_h hH0 (by omega)) rfl rfl (ly_kMo hly) ⟨_, _, rfl, by decide⟩ dX6_stock_15 rfl ⟨jj_b1 rfl, jj_b1 rfl⟩ rfl) ?_
  refine jr_if_eq (tgt := 42) hX dX6_stock_18 (by decide) (fun c_18 => absurd c_18 (by decide)) (fun c_18 => ?_)
  refine jr_iload_n hX dX6_stock_21 rfl ?_
  refine jr_ret (jr_runS hX hSt kM_X6_65 (c_isGood_ok (jj_fl hX) h_g) rfl rfl dX6_stock_22 rfl ⟨jj_b1 rfl, jj_b1 rfl⟩ rfl) ?_
  refine jr_if_eq (tgt := 42) hX dX6_stock_25 (by decide) (fun c_25 => absurd c_25 (by decide)) (fun c_25 => ?_)
  refine jr_aload_n hX dX6_stock_28 rfl ?_
  refine jr_getr hX kF_X6_28 rfl (ly_kMo hly) (ly_p6_11 hly) dX6_stock_29 ?_
  refine jr_iload_n hX dX6_stock_32 rfl ?_
  refine jr_iload_n hX dX6_stock_33 rfl ?_
  refine jr_iload_n hX dX6_stock_34 rfl ?_
  refine jr_ret (jr_runS hX hSt kM_X6_99 (c_at (jj_fl hX) (m := m) (h := h) (g := g) rfl rfl rfl) rfl rfl dX6_stock_35 rfl ⟨jj_b1 rfl, jj_b1 rfl⟩ rfl) ?_
  refine jr_iald hX (by first | with_reducible assumption | with_reducible exact ly_kWm hly (by first | assumption | omega) | with_reducible exact ly_kLd hly (by first | assumption | omega) | with_reducible exact ly_kIc hly (by first | assumption | omega) | with_reducible exact ly_kBe hly (by first | assumption | omega) | with_reducible exact ly_kPr hly (by first | assumption | omega) | with_reducible exact ly_kMt hly (by first | assumption | omega) (by first | assumption | omega) | with_reducible exact ly_kBc hly (by first | assumption | omega) (by first | assumption | omega) | with_reducible exact ly_k151 hly | with_reducible exact ly_k152 hly | with_reducible exact ly_k153 hly | with_reducible exact ly_k154 hly | with_reducible exact ly_k155 hly | with_reducible exact ly_k156 hly | with_reducible exact ly_k157 hly | with_reducible exact ly_k158 hly | with_reducible exact ly_k159 hly | with_reducible exact ly_k160 hly | with_reducible exact ly_kAh hly (by first | assumption | omega)) (by first | with_reducible rfl | with_reducible assumption | rfl) (by omega) dX6_stock_38 ?_
  rw [ml_hStock hm0 h_m (show 4 * h + g < 32 by omega), Nat.mul_comm 4 h]
  refine jr_goto (tgt := 47) hX dX6_stock_39 (by decide) ?_
  exact jr_iret hX dX6_stock_47 rfl rfl ⟨⟨rfl, jj_u_eq, hm0, hz0, fun a ha => jj_u_ne (by unfold offN at ha; omega)⟩, rfl, rfl, rfl, rfl⟩
