/-! berth, load, pass, the mean, all in one number -/
theorem fM_tr {M : Nat} {I J S : jj_I} (h : fM M I J) (h2 : fM M J S) : fM M I S :=
  ⟨fun a ha => (h2.1 a ha).trans (h.1 a ha), fun m m1 m2 => ⟨(h2.2 m m1 m2).1.trans (h.2 m m1 m2).1, fun k hk => ((h2.2 m m1 m2).2 k hk).trans ((h.2 m m1 m2).2 k hk)⟩⟩
theorem jm_gap {a b : Int32} (h : 1 ≤ a - b) : ¬ b = a := fun e => by
  rw [e, Int32.sub_self] at h
  exact absurd h (by decide)
theorem jm_p0 {x : Int32} (h : x = 0 ∨ x = 1) (n : ¬ x = 1) : x = 0 := h.resolve_right n
set_option maxHeartbeats 4000000 in
set_option maxRecDepth 100000 in
theorem m_berth_x1 {l : Launch} (hfl : l.stackTraces = false) {D : jj_D} {n : Nat} {K : jj_K} {I : jj_I} {P : jj_P} {G : jj_G} (hly : ly K P) {H M B N : Nat} {C : jj_I} {b : Int32} {z : Int32} (hs : sf 0 H M B N C) (hk : sk 0 H M B N C) (hm : ml 0 H M B N C I) (hz : mz M C I) (h_b : b < 0 ∨ nI B ≤ b) :
    jj_Met l D yX6_berth (jj_ws yX6_berth cX6_berth 4 (some .int)) { frames := 3, cells := 0, slots := 0, locals := 67 } [.ref 150, .int b, .int z] n K I P G (jj_R (some (.int 0)) (n) (K) (jj_u (jj_u I 150 0 0) 150 0 1) (P) (G)) jj_noX := by
  refine jj_of hfl (by decide +kernel) [some (.ref 150), some (.int b), some (.int z), none] rfl rfl ?_
  intro X hXl hX hSt
  have zq := sf_Z hs
  have hm0 : ml 0 H M B N C (jj_u I 150 0 0) := ml_th hm zq
  have hz0 : mz M C (jj_u I 150 0 0) := mz_th hz
  have hH0 := hm0.1.1
  have hM0 := hm0.1.2.1
  have hB0 := hm0.1.2.2.1
  have hN0 := hm0.1.2.2.2
  have hH2 := hs.1.2
  have hM2 := zq.1
  have hB2 := zq.2.1
  have hN2 := zq.2.2
  refine jr_aload_n hX dX6_berth_0 rfl ?_
  refine jr_iconst (v := 0) hX dX6_berth_1 (by decide) ?_
  refine jr_puti hX kF_X6_40 rfl (ly_kMo hly) (by decide) dX6_berth_2 ?_
  refine jr_aload_n hX dX6_berth_5 rfl ?_
  refine jr_iload_n hX dX6_berth_6 rfl ?_
  refine jr_ret (jr_runV hX hSt kM_X6_121 (c_isBoat_x (jj_fl hX) hly h_b hB0 (by omega)) rfl rfl (ly_kMo hly) ⟨_, _, rfl, by decide⟩ dX6_berth_7 rfl ⟨jj_b1 rfl, jj_b1 rfl⟩ rfl) ?_
  refine jr_if_ne (tgt := 19) hX dX6_berth_10 (by decide) (fun c_10 => absurd rfl c_10) (fun c_10 => ?_)
  refine jr_aload_n hX dX6_berth_13 rfl ?_
  refine jr_iconst (v := 1) hX dX6_berth_14 (by decide) ?_
  refine jr_ret (jr_runV hX hSt kM_X6_57 (c_fail (jj_fl hX) hly) rfl rfl (ly_kMo hly) ⟨_, _, rfl, by decide⟩ dX6_berth_15 rfl ⟨jj_b1 rfl, jj_b1 rfl⟩ rfl) ?_
  exact jr_iret hX dX6_berth_18 rfl rfl ⟨rfl, rfl, rfl, rfl, rfl, rfl⟩
set_option maxHeartbeats 4000000 in
set_option maxRecDepth 100000 in
theorem m_berth_x2 {l : Launch} (hfl : l.stackTraces = false) {D : jj_D} {n : Nat} {K : jj_K} {I : jj_I} {P : jj_P} {G : jj_G} (hly : ly K P) {H M B N : Nat} {C : jj_I} {b : Nat} {z : Int32} (hs : sf 0 H M B N C) (hk : sk 0 H M B N C) (hm : ml 0 H M B N C I) (hz : mz M C I) (h_b : b < B) (h_i : ¬ (C (aB 0 b) 3 = 0 ∨ C (aB 0 b) 3 = 1)) :
    jj_Met l D yX6_berth (jj_ws yX6_berth cX6_berth 4 (some .int)) { frames := 3, cells := 0, slots := 0, locals := 67 } [.ref 150, .int (nI b), .int z] n K I P G (jj_R (some (.int 0)) (n) (K) (jj_u (jj_u I 150 0 0) 150 0 2) (P) (G)) jj_noX := by
  refine jj_of hfl (by decide +kernel) [some (.ref 150), some (.int (nI b)), some (.int z), none] rfl rfl ?_
  intro X hXl hX hSt
  have zq := sf_Z hs
  have hm0 : ml 0 H M B N C (jj_u I 150 0 0) := ml_th hm zq
  have hz0 : mz M C (jj_u I 150 0 0) := mz_th hz
  have hH0 := hm0.1.1
  have hM0 := hm0.1.2.1
  have hB0 := hm0.1.2.2.1
  have hN0 := hm0.1.2.2.2
  have hH2 := hs.1.2
  have hM2 := zq.1
  have hB2 := zq.2.1
  have hN2 := zq.2.2
  obtain ⟨⟨o_, ho_, eo_⟩, hp, h4, hl, ⟨g0, hg0, eg0⟩⟩ := hs.2.2.2.2.1 b h_b
  obtain ⟨o, ho, eo⟩ := (hk.2.1 b h_b).2
  obtain ⟨st0, st1, st2, st3, st4, st5, st6, st7, st8⟩ := ml_hB hm0 h_b
  refine jr_aload_n hX dX6_berth_0 rfl ?_
  refine jr_iconst (v := 0) hX dX6_berth_1 (by decide) ?_
  refine jr_puti hX kF_X6_40 rfl (ly_kMo hly) (by decide) dX6_berth_2 ?_
  refine jr_aload_n hX dX6_berth_5 rfl ?_
  refine jr_iload_n hX dX6_berth_6 rfl ?_
  refine jr_ret (jr_runV hX hSt kM_X6_121 (c_isBoat_ok (jj_fl hX) hly h_b hB0 (by omega)) rfl rfl (ly_kMo hly) ⟨_, _, rfl, by decide⟩ dX6_berth_7 rfl ⟨jj_b1 rfl, jj_b1 rfl⟩ rfl) ?_
  refine jr_if_ne (tgt := 19) hX dX6_berth_10 (by decide) (fun c_10 => ?_) (fun c_10 => absurd c_10 (by decide))
  refine jr_aload_n hX dX6_berth_19 rfl ?_
  refine jr_iload_n hX dX6_berth_20 rfl ?_
  refine jr_iconst (v := 4) hX dX6_berth_21 (by decide) ?_
  refine jr_ret (jr_runV hX hSt kM_X6_74 (c_bo (jj_fl hX) hly (b := b) (k := 4) (by omega) (show _ = nI 4 from rfl) (by decide)) rfl rfl (ly_kMo hly) ⟨_, _, rfl, by decide⟩ dX6_berth_22 rfl ⟨jj_b1 rfl, jj_b1 rfl⟩ rfl) ?_
  refine jr_istore_n hX dX6_berth_25 rfl ?_
  refine jr_aload_n hX dX6_berth_26 rfl ?_
  refine jr_iload_n hX dX6_berth_27 rfl ?_
  refine jr_ret (jr_runV hX hSt kM_X6_77 (c_isHere (jj_fl hX) hly (by omega)) rfl rfl (ly_kMo hly) ⟨_, _, rfl, by decide⟩ dX6_berth_28 rfl ⟨jj_b1 rfl, jj_b1 rfl⟩ rfl) ?_
  rw [st3]
  refine jr_if_eq (tgt := 62) hX dX6_berth_31 (by decide) (fun c_31 => ?_) (fun c_31 => absurd (jm_h0 hp h_i) c_31)
  refine jr_aload_n hX dX6_berth_62 rfl ?_
  refine jr_iconst (v := 2) hX dX6_berth_63 (by decide) ?_
  refine jr_ret (jr_runV hX hSt kM_X6_57 (c_fail (jj_fl hX) hly) rfl rfl (ly_kMo hly) ⟨_, _, rfl, by decide⟩ dX6_berth_64 rfl ⟨jj_b1 rfl, jj_b1 rfl⟩ rfl) ?_
  exact jr_iret hX dX6_berth_67 rfl rfl ⟨rfl, rfl, rfl, rfl, rfl, rfl⟩
set_option maxHeartbeats 4000000 in
set_option maxRecDepth 100000 in
theorem m_berth_x3 {l : Launch} (hfl : l.stackTraces = false) {D : jj_D} {n : Nat} {K : jj_K} {I : jj_I} {P : jj_P} {G : jj_G} (hly : ly K P) {H M B N : Nat} {C : jj_I} {b : Nat} {z : Int32} (hs : sf 0 H M B N C) (hk : sk 0 H M B N C) (hm : ml 0 H M B N C I) (hz : mz M C I) (h_b : b < B) (h_i : C (aB 0 b) 3 = 0 ∨ C (aB 0 b) 3 = 1) (h_z : ¬ z = 0) (h_n : ¬ C (aB 0 b) 3 = 1) (h_f : C (aBe 0) (nv (C (aB 0 b) 4)) - sm (q_bl 0 (C (aB 0 b) 4) 1 C) B < 1) (hv : C (aBe 0) (nv (C (aB 0 b) 4)) - sm (q_bl 0 (C (aB 0 b) 4) 1 C) B < 1 → sm (q_bl 0 (C (aB 0 b) 4) 1 C) B = C (aBe 0) (nv (C (aB 0 b) 4))) :
    jj_Met l D yX6_berth (jj_ws yX6_berth cX6_berth 4 (some .int)) { frames := 3, cells := 0, slots := 0, locals := 67 } [.ref 150, .int (nI b), .int z] n K I P G (jj_R (some (.int 0)) (n) (K) (jj_u (jj_u I 150 0 0) 150 0 2) (P) (G)) jj_noX := by
  refine jj_of hfl (by decide +kernel) [some (.ref 150), some (.int (nI b)), some (.int z), none] rfl rfl ?_
  intro X hXl hX hSt
  have zq := sf_Z hs
  have hm0 : ml 0 H M B N C (jj_u I 150 0 0) := ml_th hm zq
  have hz0 : mz M C (jj_u I 150 0 0) := mz_th hz
  have hH0 := hm0.1.1
  have hM0 := hm0.1.2.1
  have hB0 := hm0.1.2.2.1
  have hN0 := hm0.1.2.2.2
  have hH2 := hs.1.2
  have hM2 := zq.1
  have hB2 := zq.2.1
  have hN2 := zq.2.2
  obtain ⟨⟨o_, ho_, eo_⟩, hp, h4, hl, ⟨g0, hg0, eg0⟩⟩ := hs.2.2.2.2.1 b h_b
  obtain ⟨o, ho, eo⟩ := (hk.2.1 b h_b).2
  obtain ⟨st0, st1, st2, st3, st4, st5, st6, st7, st8⟩ := ml_hB hm0 h_b
  obtain ⟨h0, hh0, eh0⟩ := h4 (by rcases h_i with e | e <;> rw [e] <;> decide)
  have ex : (jj_u I 150 0 0) 158 (12 * b + 4) = nI h0 := st4.trans eh0
  have ne : nv (C (aB 0 b) 4) = h0 := by rw [eh0, nv_nI (by omega)]
  have tq := t1_eq (x := nI h0) hm0
  refine jr_aload_n hX dX6_berth_0 rfl ?_
  refine jr_iconst (v := 0) hX dX6_berth_1 (by decide) ?_
  refine jr_puti hX kF_X6_40 rfl (ly_kMo hly) (by decide) dX6_berth_2 ?_
  refine jr_aload_n hX dX6_berth_5 rfl ?_
  refine jr_iload_n hX dX6_berth_6 rfl ?_
  refine jr_ret (jr_runV hX hSt kM_X6_121 (c_isBoat_ok (jj_fl hX) hly h_b hB0 (by omega)) rfl rfl (ly_kMo hly) ⟨_, _, rfl, by decide⟩ dX6_berth_7 rfl ⟨jj_b1 rfl, jj_b1 rfl⟩ rfl) ?_
  refine jr_if_ne (tgt := 19) hX dX6_berth_10 (by decide) (fun c_10 => ?_) (fun c_10 => absurd c_10 (by decide))
  refine jr_aload_n hX dX6_berth_19 rfl ?_
  refine jr_iload_n hX dX6_berth_20 rfl ?_
  refine jr_iconst (v := 4) hX dX6_berth_21 (by decide) ?_
  refine jr_ret (jr_runV hX hSt kM_X6_74 (c_bo (jj_fl hX) hly (b := b) (k := 4) (by omega) (show _ = nI 4 from rfl) (by decide)) rfl rfl (ly_kMo hly) ⟨_, _, rfl, by decide⟩ dX6_berth_22 rfl ⟨jj_b1 rfl, jj_b1 rfl⟩ rfl) ?_
  rw [ex]
  refine jr_istore_n hX dX6_berth_25 rfl ?_
  refine jr_aload_n hX dX6_berth_26 rfl ?_
  refine jr_iload_n hX dX6_berth_27 rfl ?_
  refine jr_ret (jr_runV hX hSt kM_X6_77 (c_isHere (jj_fl hX) hly (by omega)) rfl rfl (ly_kMo hly) ⟨_, _, rfl, by decide⟩ dX6_berth_28 rfl ⟨jj_b1 rfl, jj_b1 rfl⟩ rfl) ?_
  rw [st3]
  refine jr_if_eq (tgt := 62) hX dX6_berth_31 (by decide) (fun c_31 => absurd c_31 (jm_h1 h_i)) (fun c_31 => ?_)
  refine jr_iload_n hX dX6_berth_34 rfl ?_
  refine jr_if_eq (tgt := 68) hX dX6_berth_35 (by decide) (fun c_35 => absurd c_35 h_z) (fun c_35 => ?_)
  refine jr_aload_n hX dX6_berth_38 rfl ?_
  refine jr_iload_n hX dX6_berth_39 rfl ?_
  refine jr_iconst (v := 3) hX dX6_berth_40 (by decide) ?_
  refine jr_ret (jr_runV hX hSt kM_X6_74 (c_bo (jj_fl hX) hly (b := b) (k := 3) (by omega) (show _ = nI 3 from rfl) (by decide)) rfl rfl (ly_kMo hly) ⟨_, _, rfl, by decide⟩ dX6_berth_41 rfl ⟨jj_b1 rfl, jj_b1 rfl⟩ rfl) ?_
  rw [st3]
  refine jr_if_ne (tgt := 68) hX dX6_berth_44 (by decide) (fun c_44 => absurd (jm_p0 h_i h_n) c_44) (fun c_44 => ?_)
  refine jr_aload_n hX dX6_berth_47 rfl ?_
  refine jr_iload_n hX dX6_berth_48 rfl ?_
  refine jr_iconst (v := 1) hX dX6_berth_49 (by decide) ?_
  refine jr_ret (jr_runV hX hSt kM_X6_80 (c_there1 (jj_fl hX) hly hB0 hB2) rfl rfl (ly_kMo hly) ⟨_, _, rfl, by decide⟩ dX6_berth_50 rfl ⟨jj_b1 rfl, jj_b1 rfl⟩ rfl) ?_
  rw [tq]
  refine jr_aload_n hX dX6_berth_53 rfl ?_
  refine jr_getr hX kF_X6_16 rfl (ly_kMo hly) (ly_p6_4 hly) dX6_berth_54 ?_
  refine jr_iload_n hX dX6_berth_57 rfl ?_
  refine jr_iald hX (by first | with_reducible assumption | with_reducible exact ly_kWm hly (by first | assumption | omega) | with_reducible exact ly_kLd hly (by first | assumption | omega) | with_reducible exact ly_kIc hly (by first | assumption | omega) | with_reducible exact ly_kBe hly (by first | assumption | omega) | with_reducible exact ly_kPr hly (by first | assumption | omega) | with_reducible exact ly_kMt hly (by first | assumption | omega) (by first | assumption | omega) | with_reducible exact ly_kBc hly (by first | assumption | omega) (by first | assumption | omega) | with_reducible exact ly_k151 hly | with_reducible exact ly_k152 hly | with_reducible exact ly_k153 hly | with_reducible exact ly_k154 hly | with_reducible exact ly_k155 hly | with_reducible exact ly_k156 hly | with_reducible exact ly_k157 hly | with_reducible exact ly_k158 hly | with_reducible exact ly_k159 hly | with_reducible exact ly_k160 hly | with_reducible exact ly_kAh hly (by first | assumption | omega)) (by first | with_reducible rfl | with_reducible assumption | rfl) (by omega) dX6_berth_58 ?_
  rw [ml_hBer hm0 (show h0 < 8 by omega)]
  have hv2 := hv h_f
  rw [ne, eh0] at hv2
  refine jr_icmp_ne (tgt := 68) hX dX6_berth_59 (by decide) (fun c_59 => absurd hv2 c_59) (fun c_59 => ?_)
  refine jr_aload_n hX dX6_berth_62 rfl ?_
  refine jr_iconst (v := 2) hX dX6_berth_63 (by decide) ?_
  refine jr_ret (jr_runV hX hSt kM_X6_57 (c_fail (jj_fl hX) hly) rfl rfl (ly_kMo hly) ⟨_, _, rfl, by decide⟩ dX6_berth_64 rfl ⟨jj_b1 rfl, jj_b1 rfl⟩ rfl) ?_
  exact jr_iret hX dX6_berth_67 rfl rfl ⟨rfl, rfl, rfl, rfl, rfl, rfl⟩
set_option maxHeartbeats 4000000 in
set_option maxRecDepth 100000 in
theorem m_berth_ok {l : Launch} (hfl : l.stackTraces = false) {D : jj_D} {n : Nat} {K : jj_K} {I : jj_I} {P : jj_P} {G : jj_G} (hly : ly K P) {H M B N : Nat} {C : jj_I} {b : Nat} {z : Int32} (hs : sf 0 H M B N C) (hk : sk 0 H M B N C) (hm : ml 0 H M B N C I) (hz : mz M C I) (h_b : b < B) (h_i : C (aB 0 b) 3 = 0 ∨ C (aB 0 b) 3 = 1) (h_f : ¬ z = 0 → ¬ C (aB 0 b) 3 = 1 → 1 ≤ C (aBe 0) (nv (C (aB 0 b) 4)) - sm (q_bl 0 (C (aB 0 b) 4) 1 C) B) :
    jj_Met l D yX6_berth (jj_ws yX6_berth cX6_berth 4 (some .int)) { frames := 3, cells := 0, slots := 0, locals := 67 } [.ref 150, .int (nI b), .int z] n K I P G (jj_RS (fun r J => r = some (.int (f_berth b z C (aBe 0) (nv (C (aB 0 b) 4)) - sm (q_bl 0 (f_berth b z C (aB 0 b) 4) 1 (f_berth b z C)) B)) ∧ J 150 0 = 0 ∧ ml 0 H M B N (f_berth b z C) J ∧ mz (M) (f_berth b z C) J ∧ ∀ a, offN a → J a = I a) n K P G) jj_noX := by
  refine jj_of hfl (by decide +kernel) [some (.ref 150), some (.int (nI b)), some (.int z), none] rfl rfl ?_
  intro X hXl hX hSt
  have zq := sf_Z hs
  have hm0 : ml 0 H M B N C (jj_u I 150 0 0) := ml_th hm zq
  have hz0 : mz M C (jj_u I 150 0 0) := mz_th hz
  have hH0 := hm0.1.1
  have hM0 := hm0.1.2.1
  have hB0 := hm0.1.2.2.1
  have hN0 := hm0.1.2.2.2
  have hH2 := hs.1.2
  have hM2 := zq.1
  have hB2 := zq.2.1
  have hN2 := zq.2.2
  obtain ⟨⟨o_, ho_, eo_⟩, hp, h4, hl, ⟨g0, hg0, eg0⟩⟩ := hs.2.2.2.2.1 b h_b
  obtain ⟨o, ho, eo⟩ := (hk.2.1 b h_b).2
  obtain ⟨st0, st1, st2, st3, st4, st5, st6, st7, st8⟩ := ml_hB hm0 h_b
  obtain ⟨h0, hh0, eh0⟩ := h4 (by rcases h_i with e | e <;> rw [e] <;> decide)
  have ex : (jj_u I 150 0 0) 158 (12 * b + 4) = nI h0 := st4.trans eh0
  have ne : nv (C (aB 0 b) 4) = h0 := by rw [eh0, nv_nI (by omega)]
  have tq := t1_eq (x := nI h0) hm0
  have zz := sf_Z hs
  refine jr_aload_n hX dX6_berth_0 rfl ?_
  refine jr_iconst (v := 0) hX dX6_berth_1 (by decide) ?_
  refine jr_puti hX kF_X6_40 rfl (ly_kMo hly) (by decide) dX6_berth_2 ?_
  refine jr_aload_n hX dX6_berth_5 rfl ?_
  refine jr_iload_n hX dX6_berth_6 rfl ?_
  refine jr_ret (jr_runV hX hSt kM_X6_121 (c_isBoat_ok (jj_fl hX) hly h_b hB0 (by omega)) rfl rfl (ly_kMo hly) ⟨_, _, rfl, by decide⟩ dX6_berth_7 rfl ⟨jj_b1 rfl, jj_b1 rfl⟩ rfl) ?_
  refine jr_if_ne (tgt := 19) hX dX6_berth_10 (by decide) (fun c_10 => ?_) (fun c_10 => absurd c_10 (by decide))
  refine jr_aload_n hX dX6_berth_19 rfl ?_
  refine jr_iload_n hX dX6_berth_20 rfl ?_
  refine jr_iconst (v := 4) hX dX6_berth_21 (by decide) ?_
  refine jr_ret (jr_runV hX hSt kM_X6_74 (c_bo (jj_fl hX) hly (b := b) (k := 4) (by omega) (show _ = nI 4 from rfl) (by decide)) rfl rfl (ly_kMo hly) ⟨_, _, rfl, by decide⟩ dX6_berth_22 rfl ⟨jj_b1 rfl, jj_b1 rfl⟩ rfl) ?_
  rw [ex]
  refine jr_istore_n hX dX6_berth_25 rfl ?_
  refine jr_aload_n hX dX6_berth_26 rfl ?_
  refine jr_iload_n hX dX6_berth_27 rfl ?_
  refine jr_ret (jr_runV hX hSt kM_X6_77 (c_isHere (jj_fl hX) hly (by omega)) rfl rfl (ly_kMo hly) ⟨_, _, rfl, by decide⟩ dX6_berth_28 rfl ⟨jj_b1 rfl, jj_b1 rfl⟩ rfl) ?_
  rw [st3]
  refine jr_if_eq (tgt := 62) hX dX6_berth_31 (by decide) (fun c_31 => absurd c_31 (jm_h1 h_i)) (fun c_31 => ?_)
  refine jr_iload_n hX dX6_berth_34 rfl ?_
  refine jr_if_eq (tgt := 68) hX dX6_berth_35 (by decide) (fun c_35 => ?_) (fun c_35 => ?_)
  · refine jr_aload_n hX dX6_berth_68 rfl ?_
    refine jr_iload_n hX dX6_berth_69 rfl ?_
    refine jr_iconst (v := 3) hX dX6_berth_70 (by decide) ?_
    refine jr_iload_n hX dX6_berth_71 rfl ?_
    refine jr_if_eq (tgt := 79) hX dX6_berth_72 (by decide) (fun c_72 => ?_) (fun c_72 => absurd c_35 c_72)
    refine jr_iconst (v := 0) hX dX6_berth_79 (by decide) ?_
    refine jr_void (jr_runV hX hSt kM_X6_124 (c_setBo (jj_fl hX) hly (b := b) (k := 3) (by omega) (show _ = nI 3 from rfl) (by decide)) rfl rfl (ly_kMo hly) ⟨_, _, rfl, by decide⟩ dX6_berth_80 rfl ⟨jj_b1 rfl, jj_b1 rfl⟩ rfl) ?_
    refine jr_aload_n hX dX6_berth_83 rfl ?_
    refine jr_getr hX kF_X6_16 rfl (ly_kMo hly) (ly_p6_4 hly) dX6_berth_84 ?_
    refine jr_iload_n hX dX6_berth_87 rfl ?_
    refine jr_iald hX (by first | with_reducible assumption | with_reducible exact ly_kWm hly (by first | assumption | omega) | with_reducible exact ly_kLd hly (by first | assumption | omega) | with_reducible exact ly_kIc hly (by first | assumption | omega) | with_reducible exact ly_kBe hly (by first | assumption | omega) | with_reducible exact ly_kPr hly (by first | assumption | omega) | with_reducible exact ly_kMt hly (by first | assumption | omega) (by first | assumption | omega) | with_reducible exact ly_kBc hly (by first | assumption | omega) (by first | assumption | omega) | with_reducible exact ly_k151 hly | with_reducible exact ly_k152 hly | with_reducible exact ly_k153 hly | with_reducible exact ly_k154 hly | with_reducible exact ly_k155 hly | with_reducible exact ly_k156 hly | with_reducible exact ly_k157 hly | with_reducible exact ly_k158 hly | with_reducible exact ly_k159 hly | with_reducible exact ly_k160 hly | with_reducible exact ly_kAh hly (by first | assumption | omega)) (by first | with_reducible rfl | with_reducible assumption | rfl) (by omega) dX6_berth_88 ?_
    rw [jj_u_ne (show (153 : Nat) ≠ 158 by decide), ml_hBer hm0 (show h0 < 8 by omega)]
    refine jr_aload_n hX dX6_berth_89 rfl ?_
    refine jr_iload_n hX dX6_berth_90 rfl ?_
    refine jr_iconst (v := 1) hX dX6_berth_91 (by decide) ?_
    refine jr_ret (jr_runV hX hSt kM_X6_80 (c_there1 (jj_fl hX) hly (by rw [jj_u_ne (by decide)]; exact hB0) hB2) rfl rfl (ly_kMo hly) ⟨_, _, rfl, by decide⟩ dX6_berth_92 rfl ⟨jj_b1 rfl, jj_b1 rfl⟩ rfl) ?_
    refine jr_isub hX dX6_berth_95 ?_
    refine jr_iret hX dX6_berth_96 rfl rfl ?_
    (have fb : f_berth b z C = jj_u C (aB 0 b) 3 0 := by unfold f_berth; rw [if_pos c_35])
    rw [fb]
    exact ⟨⟨by rw [ne, jj_u_ne (show aBe 0 ≠ aB 0 b by simp only [aBe, aB]; omega), show jj_u C (aB 0 b) 3 0 (aB 0 b) 4 = nI h0 from (jj_u_nk (by decide)).trans eh0, t1_eq (ml_uSt (v := 0) hm0 zz h_b (by decide))], by rw [jj_u_ne (by decide), jj_u_eq], ml_uSt hm0 zz h_b (by decide), mz_cg hz0 (fun m _ _ => by rw [jj_u_ne (by decide)]) (fun m k _ _ _ => by rw [jj_u_ne (by decide)]) (fun m _ _ => jj_u_ne (by simp only [aMt, aB]; omega)), fun a ha => (jj_u_ne (by unfold offN at ha; omega)).trans (jj_u_ne (by unfold offN at ha; omega))⟩, rfl, rfl, rfl, rfl⟩
  · refine jr_aload_n hX dX6_berth_38 rfl ?_
    refine jr_iload_n hX dX6_berth_39 rfl ?_
    refine jr_iconst (v := 3) hX dX6_berth_40 (by decide) ?_
    refine jr_ret (jr_runV hX hSt kM_X6_74 (c_bo (jj_fl hX) hly (b := b) (k := 3) (by omega) (show _ = nI 3 from rfl) (by decide)) rfl rfl (ly_kMo hly) ⟨_, _, rfl, by decide⟩ dX6_berth_41 rfl ⟨jj_b1 rfl, jj_b1 rfl⟩ rfl) ?_
    rw [st3]
    refine jr_if_ne (tgt := 68) hX dX6_berth_44 (by decide) (fun c_44 => ?_) (fun c_44 => ?_)
    · refine jr_aload_n hX dX6_berth_68 rfl ?_
      refine jr_iload_n hX dX6_berth_69 rfl ?_
      refine jr_iconst (v := 3) hX dX6_berth_70 (by decide) ?_
      refine jr_iload_n hX dX6_berth_71 rfl ?_
      refine jr_if_eq (tgt := 79) hX dX6_berth_72 (by decide) (fun c_72 => absurd c_72 c_35) (fun c_72 => ?_)
      refine jr_iconst (v := 1) hX dX6_berth_75 (by decide) ?_
      refine jr_goto (tgt := 80) hX dX6_berth_76 (by decide) ?_
      refine jr_void (jr_runV hX hSt kM_X6_124 (c_setBo (jj_fl hX) hly (b := b) (k := 3) (by omega) (show _ = nI 3 from rfl) (by decide)) rfl rfl (ly_kMo hly) ⟨_, _, rfl, by decide⟩ dX6_berth_80 rfl ⟨jj_b1 rfl, jj_b1 rfl⟩ rfl) ?_
      refine jr_aload_n hX dX6_berth_83 rfl ?_
      refine jr_getr hX kF_X6_16 rfl (ly_kMo hly) (ly_p6_4 hly) dX6_berth_84 ?_
      refine jr_iload_n hX dX6_berth_87 rfl ?_
      refine jr_iald hX (by first | with_reducible assumption | with_reducible exact ly_kWm hly (by first | assumption | omega) | with_reducible exact ly_kLd hly (by first | assumption | omega) | with_reducible exact ly_kIc hly (by first | assumption | omega) | with_reducible exact ly_kBe hly (by first | assumption | omega) | with_reducible exact ly_kPr hly (by first | assumption | omega) | with_reducible exact ly_kMt hly (by first | assumption | omega) (by first | assumption | omega) | with_reducible exact ly_kBc hly (by first | assumption | omega) (by first | assumption | omega) | with_reducible exact ly_k151 hly | with_reducible exact ly_k152 hly | with_reducible exact ly_k153 hly | with_reducible exact ly_k154 hly | with_reducible exact ly_k155 hly | with_reducible exact ly_k156 hly | with_reducible exact ly_k157 hly | with_reducible exact ly_k158 hly | with_reducible exact ly_k159 hly | with_reducible exact ly_k160 hly | with_reducible exact ly_kAh hly (by first | assumption | omega)) (by first | with_reducible rfl | with_reducible assumption | rfl) (by omega) dX6_berth_88 ?_
      rw [jj_u_ne (show (153 : Nat) ≠ 158 by decide), ml_hBer hm0 (show h0 < 8 by omega)]
      refine jr_aload_n hX dX6_berth_89 rfl ?_
      refine jr_iload_n hX dX6_berth_90 rfl ?_
      refine jr_iconst (v := 1) hX dX6_berth_91 (by decide) ?_
      refine jr_ret (jr_runV hX hSt kM_X6_80 (c_there1 (jj_fl hX) hly (by rw [jj_u_ne (by decide)]; exact hB0) hB2) rfl rfl (ly_kMo hly) ⟨_, _, rfl, by decide⟩ dX6_berth_92 rfl ⟨jj_b1 rfl, jj_b1 rfl⟩ rfl) ?_
      refine jr_isub hX dX6_berth_95 ?_
      refine jr_iret hX dX6_berth_96 rfl rfl ?_
      (have fb : f_berth b z C = jj_u C (aB 0 b) 3 1 := by unfold f_berth; rw [if_neg c_35])
      rw [fb]
      exact ⟨⟨by rw [ne, jj_u_ne (show aBe 0 ≠ aB 0 b by simp only [aBe, aB]; omega), show jj_u C (aB 0 b) 3 1 (aB 0 b) 4 = nI h0 from (jj_u_nk (by decide)).trans eh0, t1_eq (ml_uSt (v := 1) hm0 zz h_b (by decide))], by rw [jj_u_ne (by decide), jj_u_eq], ml_uSt hm0 zz h_b (by decide), mz_cg hz0 (fun m _ _ => by rw [jj_u_ne (by decide)]) (fun m k _ _ _ => by rw [jj_u_ne (by decide)]) (fun m _ _ => jj_u_ne (by simp only [aMt, aB]; omega)), fun a ha => (jj_u_ne (by unfold offN at ha; omega)).trans (jj_u_ne (by unfold offN at ha; omega))⟩, rfl, rfl, rfl, rfl⟩
    · refine jr_aload_n hX dX6_berth_47 rfl ?_
      refine jr_iload_n hX dX6_berth_48 rfl ?_
      refine jr_iconst (v := 1) hX dX6_berth_49 (by decide) ?_
      refine jr_ret (jr_runV hX hSt kM_X6_80 (c_there1 (jj_fl hX) hly hB0 hB2) rfl rfl (ly_kMo hly) ⟨_, _, rfl, by decide⟩ dX6_berth_50 rfl ⟨jj_b1 rfl, jj_b1 rfl⟩ rfl) ?_
      rw [tq]
      refine jr_aload_n hX dX6_berth_53 rfl ?_
      refine jr_getr hX kF_X6_16 rfl (ly_kMo hly) (ly_p6_4 hly) dX6_berth_54 ?_
      refine jr_iload_n hX dX6_berth_57 rfl ?_
      refine jr_iald hX (by first | with_reducible assumption | with_reducible exact ly_kWm hly (by first | assumption | omega) | with_reducible exact ly_kLd hly (by first | assumption | omega) | with_reducible exact ly_kIc hly (by first | assumption | omega) | with_reducible exact ly_kBe hly (by first | assumption | omega) | with_reducible exact ly_kPr hly (by first | assumption | omega) | with_reducible exact ly_kMt hly (by first | assumption | omega) (by first | assumption | omega) | with_reducible exact ly_kBc hly (by first | assumption | omega) (by first | assumption | omega) | with_reducible exact ly_k151 hly | with_reducible exact ly_k152 hly | with_reducible exact ly_k153 hly | with_reducible exact ly_k154 hly | with_reducible exact ly_k155 hly | with_reducible exact ly_k156 hly | with_reducible exact ly_k157 hly | with_reducible exact ly_k158 hly | with_reducible exact ly_k159 hly | with_reducible exact ly_k160 hly | with_reducible exact ly_kAh hly (by first | assumption | omega)) (by first | with_reducible rfl | with_reducible assumption | rfl) (by omega) dX6_berth_58 ?_
      rw [ml_hBer hm0 (show h0 < 8 by omega)]
      have hf2 := h_f c_35 (by rw [c_44]; decide)
      rw [ne, eh0] at hf2
      refine jr_icmp_ne (tgt := 68) hX dX6_berth_59 (by decide) (fun c_59 => ?_) (fun c_59 => absurd c_59 (jm_gap hf2))
      refine jr_aload_n hX dX6_berth_68 rfl ?_
      refine jr_iload_n hX dX6_berth_69 rfl ?_
      refine jr_iconst (v := 3) hX dX6_berth_70 (by decide) ?_
      refine jr_iload_n hX dX6_berth_71 rfl ?_
      refine jr_if_eq (tgt := 79) hX dX6_berth_72 (by decide) (fun c_72 => absurd c_72 c_35) (fun c_72 => ?_)
      refine jr_iconst (v := 1) hX dX6_berth_75 (by decide) ?_
      refine jr_goto (tgt := 80) hX dX6_berth_76 (by decide) ?_
      refine jr_void (jr_runV hX hSt kM_X6_124 (c_setBo (jj_fl hX) hly (b := b) (k := 3) (by omega) (show _ = nI 3 from rfl) (by decide)) rfl rfl (ly_kMo hly) ⟨_, _, rfl, by decide⟩ dX6_berth_80 rfl ⟨jj_b1 rfl, jj_b1 rfl⟩ rfl) ?_
      refine jr_aload_n hX dX6_berth_83 rfl ?_
      refine jr_getr hX kF_X6_16 rfl (ly_kMo hly) (ly_p6_4 hly) dX6_berth_84 ?_
      refine jr_iload_n hX dX6_berth_87 rfl ?_
      refine jr_iald hX (by first | with_reducible assumption | with_reducible exact ly_kWm hly (by first | assumption | omega) | with_reducible exact ly_kLd hly (by first | assumption | omega) | with_reducible exact ly_kIc hly (by first | assumption | omega) | with_reducible exact ly_kBe hly (by first | assumption | omega) | with_reducible exact ly_kPr hly (by first | assumption | omega) | with_reducible exact ly_kMt hly (by first | assumption | omega) (by first | assumption | omega) | with_reducible exact ly_kBc hly (by first | assumption | omega) (by first | assumption | omega) | with_reducible exact ly_k151 hly | with_reducible exact ly_k152 hly | with_reducible exact ly_k153 hly | with_reducible exact ly_k154 hly | with_reducible exact ly_k155 hly | with_reducible exact ly_k156 hly | with_reducible exact ly_k157 hly | with_reducible exact ly_k158 hly | with_reducible exact ly_k159 hly | with_reducible exact ly_k160 hly | with_reducible exact ly_kAh hly (by first | assumption | omega)) (by first | with_reducible rfl | with_reducible assumption | rfl) (by omega) dX6_berth_88 ?_
      rw [jj_u_ne (show (153 : Nat) ≠ 158 by decide), ml_hBer hm0 (show h0 < 8 by omega)]
      refine jr_aload_n hX dX6_berth_89 rfl ?_
      refine jr_iload_n hX dX6_berth_90 rfl ?_
      refine jr_iconst (v := 1) hX dX6_berth_91 (by decide) ?_
      refine jr_ret (jr_runV hX hSt kM_X6_80 (c_there1 (jj_fl hX) hly (by rw [jj_u_ne (by decide)]; exact hB0) hB2) rfl rfl (ly_kMo hly) ⟨_, _, rfl, by decide⟩ dX6_berth_92 rfl ⟨jj_b1 rfl, jj_b1 rfl⟩ rfl) ?_
      refine jr_isub hX dX6_berth_95 ?_
      refine jr_iret hX dX6_berth_96 rfl rfl ?_
      (have fb : f_berth b z C = jj_u C (aB 0 b) 3 1 := by unfold f_berth; rw [if_neg c_35])
      rw [fb]
      exact ⟨⟨by rw [ne, jj_u_ne (show aBe 0 ≠ aB 0 b by simp only [aBe, aB]; omega), show jj_u C (aB 0 b) 3 1 (aB 0 b) 4 = nI h0 from (jj_u_nk (by decide)).trans eh0, t1_eq (ml_uSt (v := 1) hm0 zz h_b (by decide))], by rw [jj_u_ne (by decide), jj_u_eq], ml_uSt hm0 zz h_b (by decide), mz_cg hz0 (fun m _ _ => by rw [jj_u_ne (by decide)]) (fun m k _ _ _ => by rw [jj_u_ne (by decide)]) (fun m _ _ => jj_u_ne (by simp only [aMt, aB]; omega)), fun a ha => (jj_u_ne (by unfold offN at ha; omega)).trans (jj_u_ne (by unfold offN at ha; omega))⟩, rfl, rfl, rfl, rfl⟩
set_option maxHeartbeats 4000000 in
set_option maxRecDepth 100000 in
theorem m_pass_x1 {l : Launch} (hfl : l.stackTraces = false) {D : jj_D} {n : Nat} {K : jj_K} {I : jj_I} {P : jj_P} {G : jj_G} (hly : ly K P) {H M B N : Nat} {C : jj_I} {y : Int32} (hs : sf 0 H M B N C) (hk : sk 0 H M B N C) (hm : ml 0 H M B N C I) (hz : mz M C I) (h_y : y < 1 ∨ 200 < y) :
    jj_Met l D yX6_pass (jj_ws yX6_pass cX6_pass 4 (some .int)) { frames := 4, cells := 0, slots := 0, locals := 91 } [.ref 150, .int y] n K I P G (jj_R (some (.int 0)) (n) (K) (jj_u (jj_u I 150 0 0) 150 0 1) (P) (G)) jj_noX := by
  refine jj_of hfl (by decide +kernel) [some (.ref 150), some (.int y), none, none] rfl rfl ?_
  intro X hXl hX hSt
  have z := sf_Z hs
  have hm0 : ml 0 H M B N C (jj_u I 150 0 0) := ml_th hm z
  have hz0 : mz M C (jj_u I 150 0 0) := mz_th hz
  have hH0 := hm0.1.1
  have hM0 := hm0.1.2.1
  have hB0 := hm0.1.2.2.1
  have hN0 := hm0.1.2.2.2
  have hH2 := hs.1.2
  have hM2 := z.1
  have hB2 := z.2.1
  have hN2 := z.2.2
  refine jr_aload_n hX dX6_pass_0 rfl ?_
  refine jr_iconst (v := 0) hX dX6_pass_1 (by decide) ?_
  refine jr_puti hX kF_X6_40 rfl (ly_kMo hly) (by decide) dX6_pass_2 ?_
  refine jr_iload_n hX dX6_pass_5 rfl ?_
  refine jr_iconst (v := 1) hX dX6_pass_6 (by decide) ?_
  refine jr_sipush (v := 200) hX dX6_pass_7 (by decide) ?_
  refine jr_ret (jr_runS hX hSt kM_X6_47 (c_isIn_x (jj_fl hX) (jm_nr h_y)) rfl rfl dX6_pass_10 rfl ⟨jj_b1 rfl, jj_b1 rfl⟩ rfl) ?_
  refine jr_if_ne (tgt := 22) hX dX6_pass_13 (by decide) (fun c_13 => absurd rfl c_13) (fun c_13 => ?_)
  refine jr_aload_n hX dX6_pass_16 rfl ?_
  refine jr_iconst (v := 1) hX dX6_pass_17 (by decide) ?_
  refine jr_ret (jr_runV hX hSt kM_X6_57 (c_fail (jj_fl hX) hly) rfl rfl (ly_kMo hly) ⟨_, _, rfl, by decide⟩ dX6_pass_18 rfl ⟨jj_b1 rfl, jj_b1 rfl⟩ rfl) ?_
  exact jr_iret hX dX6_pass_21 rfl rfl ⟨rfl, rfl, rfl, rfl, rfl, rfl⟩
theorem pd_far {w H M B N d m : Nat} {C : jj_I} (hs : sf w H M B N C) (h : sk w H M B N C) (h1 : M ≤ m) (h2 : m < 5) : f_pd w H B N d C (aMt w m) = C (aMt w m) := by
  have hB2 := hs.2.2.1.2
  have hN2 := hs.2.2.2.1.2
  have hM2 := hs.2.1.2
  have a1 := it_in (f := f_py w) (S := fun J => (sf w H M B N J ∧ sk w H M B N J) ∧ J (aMt w m) = C (aMt w m)) ⟨⟨sf_fr (d := d) hs, sk_fr (d := d) h⟩, fr_fr (by simp only [aMt, aIc]; omega)⟩ (N := B) (fun k y hk hy => ⟨⟨sf_py hy.1.1 hk, sk_py hy.1.1 hy.1.2 hk⟩, by
    obtain ⟨o, ho, eo⟩ := (hy.1.2.2.1 k hk).2
    rw [fr_py (by simp only [aMt, aB]; omega) (by rw [eo, nv_nI (by omega)]; simp only [aMt, aM]; omega)]
    exact hy.2⟩) B (Nat.le_refl _)
  have a2 := it_in (f := fun k M => f_bi w k H (f_go w k M)) (S := fun J => (sf w H M B N J ∧ sk w H M B N J) ∧ J (aMt w m) = C (aMt w m)) a1 (N := B) (fun k y hk hy => ⟨⟨sf_gb hy.1.1 hk, sk_gb hy.1.1 hy.1.2 hk⟩, by
    rw [fr_bi (by simp only [aMt, aB]; omega) (by simp only [aMt, aBc]; omega), fr_go (by simp only [aMt, aB]; omega)]
    exact hy.2⟩) B (Nat.le_refl _)
  have a3 := it_in (f := f_se w) (S := fun J => (sf w H M B N J ∧ sk w H M B N J) ∧ J (aMt w m) = C (aMt w m)) a2 (N := N) (fun k y hk hy => ⟨⟨sf_se hy.1.1 hk, sk_se hy.1.1 hy.1.2 hk⟩, by
    obtain ⟨⟨a, ha, ea⟩, ⟨q, hq, eq⟩⟩ := hy.1.2.2.2 k hk
    rw [fr_se (by simp only [aMt, aD]; omega) (by rw [eq, nv_nI (by omega)]; simp only [aMt, aM]; omega) (by rw [ea, nv_nI (by omega)]; simp only [aMt, aM]; omega) (by rw [eq, nv_nI (by omega)]; simp only [aMt]; omega) (by rw [ea, nv_nI (by omega)]; simp only [aMt]; omega)]
    exact hy.2⟩) N (Nat.le_refl _)
  unfold f_pd
  try dsimp only
  rw [jj_u_ne (by simp only [aMt, aR]; omega)]
  exact a3.2
theorem jm_tel {a b c : Int32} : (a - c) + (b - a) = b - c := by
  have h : ∀ x y z : BitVec 32, (x - z) + (y - x) = y - z := fun x y z => by
    rw [BitVec.add_comm, BitVec.sub_eq_add_neg y x, BitVec.sub_eq_add_neg x z, BitVec.add_assoc, ← BitVec.add_assoc (-x), BitVec.add_comm (-x) x, ← BitVec.sub_eq_add_neg x x, BitVec.sub_self, BitVec.zero_add, ← BitVec.sub_eq_add_neg]
  exact Int32.toBitVec_inj.mp (h a.toBitVec b.toBitVec c.toBitVec)
set_option maxHeartbeats 4000000 in
set_option maxRecDepth 100000 in
theorem m_pass_ok {l : Launch} (hfl : l.stackTraces = false) {D : jj_D} {n : Nat} {K : jj_K} {I : jj_I} {P : jj_P} {G : jj_G} (hly : ly K P) {H M B N d y : Nat} {C : jj_I} (hs : sf 0 H M B N C) (hk : sk 0 H M B N C) (hm : ml 0 H M B N C I) (hz : mz M C I) (hd : C (aR 0) 0 = nI d) (hd2 : d < 2000000000) (h_y : 1 ≤ y ∧ y ≤ 200) :
    jj_Met l D yX6_pass (jj_ws yX6_pass cX6_pass 4 (some .int)) { frames := 4, cells := 0, slots := 0, locals := 91 } [.ref 150, .int (nI y)] n K I P G (jj_RS (fun r J => r = some (.int ((sm (q_bi 0 3 (f_ds 0 H B N d C y)) B) - sm (q_bi 0 3 C) B)) ∧ J 150 0 = 0 ∧ ml 0 H M B N (f_ds 0 H B N d C y) J ∧ mz M (f_ds 0 H B N d C y) J ∧ ∀ a, offN a → J a = I a) n K P G) jj_noX := by
  refine jj_of hfl (by decide +kernel) [some (.ref 150), some (.int (nI y)), none, none] rfl rfl ?_
  intro X hXl hX hSt
  have z := sf_Z hs
  have hm0 : ml 0 H M B N C (jj_u I 150 0 0) := ml_th hm z
  have hz0 : mz M C (jj_u I 150 0 0) := mz_th hz
  have hH0 := hm0.1.1
  have hM0 := hm0.1.2.1
  have hB0 := hm0.1.2.2.1
  have hN0 := hm0.1.2.2.2
  have hH2 := hs.1.2
  have hM2 := z.1
  have hB2 := z.2.1
  have hN2 := z.2.2
  have dk := ds_ok hs (by omega) hd
  have dk2 : ∀ k, sk 0 H M B N (f_ds 0 H B N d C k) := fun k => by
    induction k with
    | zero => exact hk
    | succ k ih => exact sk_pd (dk k).1 ih
  have dz : ∀ m, M ≤ m → m < 5 → ∀ k, f_ds 0 H B N d C k (aMt 0 m) = C (aMt 0 m) := fun m h1 h2 k => by
    induction k with
    | zero => rfl
    | succ k ih => exact (pd_far (dk k).1 (dk2 k) h1 h2).trans ih
  refine jr_aload_n hX dX6_pass_0 rfl ?_
  refine jr_iconst (v := 0) hX dX6_pass_1 (by decide) ?_
  refine jr_puti hX kF_X6_40 rfl (ly_kMo hly) (by decide) dX6_pass_2 ?_
  refine jr_iload_n hX dX6_pass_5 rfl ?_
  refine jr_iconst (v := 1) hX dX6_pass_6 (by decide) ?_
  refine jr_sipush (v := 200) hX dX6_pass_7 (by decide) ?_
  refine jr_ret (jr_runS hX hSt kM_X6_47 (c_isIn_ok (jj_fl hX) (show nI 1 ≤ nI y ∧ nI y ≤ nI 200 from ⟨nI_le h_y.1 (by omega), nI_le h_y.2 (by omega)⟩)) rfl rfl dX6_pass_10 rfl ⟨jj_b1 rfl, jj_b1 rfl⟩ rfl) ?_
  refine jr_if_ne (tgt := 22) hX dX6_pass_13 (by decide) (fun c_13 => ?_) (fun c_13 => absurd c_13 (by decide))
  refine jr_iconst (v := 0) hX dX6_pass_22 (by decide) ?_
  refine jr_istore_n hX dX6_pass_23 rfl ?_
  refine jr_iconst (v := 0) hX dX6_pass_24 (by decide) ?_
  refine jr_istore_n hX dX6_pass_25 rfl ?_
  have hloop : ∀ k, k ≤ y → ∀ J : jj_I, ml 0 H M B N (f_ds 0 H B N d C k) J → fM M (jj_u I 150 0 0) J → jj_J X D 4 0 0 (jj_MQ X D { frames := 4, cells := 0, slots := 0, locals := 91 } (jj_RS (fun r J => r = some (.int ((sm (q_bi 0 3 (f_ds 0 H B N d C y)) B) - sm (q_bi 0 3 C) B)) ∧ J 150 0 = 0 ∧ ml 0 H M B N (f_ds 0 H B N d C y) J ∧ mz M (f_ds 0 H B N d C y) J ∧ ∀ a, offN a → J a = I a) n K P G) jj_noX) (n) (K) (J) (P) (G) 26 [some (.ref 150), some (.int (nI y)), some (.int ((sm (q_bi 0 3 (f_ds 0 H B N d C k)) B) - sm (q_bi 0 3 C) B)), some (.int (nI k))] [] := by
    refine jj_for (y) _ ?_ (fun k hk ih => ?_)
    · intro J o1 o2
      refine jr_iload_n hX dX6_pass_26 rfl ?_
      refine jr_iload_n hX dX6_pass_27 rfl ?_
      refine jr_icmp_ge (tgt := 44) hX dX6_pass_28 (by decide) (fun c_28 => ?_) (fun c_28 => absurd (nI_le (Nat.le_refl _) (by omega)) c_28)
      refine jr_iload_n hX dX6_pass_44 rfl ?_
      exact jr_iret hX dX6_pass_45 rfl rfl ⟨⟨rfl, by rw [o2.1 150 (Or.inl (by decide)), jj_u_eq], o1, mz_cg hz0 (fun m h1 h2 => (o2.2 m h1 h2).1) (fun m k h1 h2 h3 => (o2.2 m h1 h2).2 k h3) (fun m h1 h2 => dz m h1 h2 y), fun a ha => (o2.1 a (by unfold offN at ha; unfold offM; omega)).trans (jj_u_ne (by unfold offN at ha; omega))⟩, rfl, rfl, rfl, rfl⟩
    · intro J o1 o2
      refine jr_iload_n hX dX6_pass_26 rfl ?_
      refine jr_iload_n hX dX6_pass_27 rfl ?_
      refine jr_icmp_ge (tgt := 44) hX dX6_pass_28 (by decide) (fun c_28 => absurd c_28 (nI_ge (by assumption) (by omega))) (fun c_28 => ?_)
      refine jr_iload_n hX dX6_pass_31 rfl ?_
      refine jr_aload_n hX dX6_pass_32 rfl ?_
      refine jr_rel (jr_runV hX hSt kM_X6_152 (c_dayOn (jj_fl hX) hly (dk k).1 o1 (dk2 k) (dk k).2.1 (by omega)) rfl rfl (ly_kMo hly) ⟨_, _, rfl, by decide⟩ dX6_pass_33 rfl ⟨jj_b1 rfl, jj_b1 rfl⟩ rfl) ?_
      rintro r J1 ⟨rfl, p1, p2⟩
      simp only [Option.toList, List.cons_append, List.nil_append]
      refine jr_iadd hX dX6_pass_36 ?_
      refine jr_istore_n hX dX6_pass_37 rfl ?_
      refine jr_iinc hX dX6_pass_38 rfl (by first | with_reducible exact jj_inc _ | with_reducible exact jj_inc1 _) rfl ?_
      refine jr_goto (tgt := 26) hX dX6_pass_41 (by decide) ?_
      have e9 := ih J1 p1 (fM_tr o2 p2)
      rw [show (sm (q_bi 0 3 (f_ds 0 H B N d C (k + 1))) B) - sm (q_bi 0 3 C) B = _ from jm_tel.symm] at e9
      exact e9
  have e0 := hloop 0 (Nat.zero_le _) (jj_u I 150 0 0) hm0 fM_refl
  rw [show (sm (q_bi 0 3 (f_ds 0 H B N d C 0)) B) - sm (q_bi 0 3 C) B = 0 from Int32.sub_self _] at e0
  exact e0
