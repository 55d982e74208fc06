/-! advising, the model -/
theorem sk_off {H M B N : Nat} {C J : jj_I} (hs : sf 0 H M B N C) (h : sk 0 H M B N C) (ho : ∀ a, offT a → J a = C a) : sk 0 H M B N J := by
  obtain ⟨h1, h2, h3⟩ := h
  have hB := hs.2.2.1.2
  have hN := hs.2.2.2.1.2
  refine ⟨fun l hl => ?_, fun b hb => ?_, fun d hd => ?_⟩
  · rw [ho _ (Or.inl (by simp only [aLd]; omega))]; exact h1 l hl
  · have e := ho (aB 0 b) (Or.inl (by simp only [aB]; omega))
    rw [e]; exact ⟨sfG_cg e (h2 b hb).1, (h2 b hb).2⟩
  · rw [ho _ (Or.inl (by simp only [aD]; omega))]; exact h3 d hd
set_option maxHeartbeats 4000000 in
set_option maxRecDepth 100000 in
theorem m_advise_x1 {l : Launch} (hfl : l.stackTraces = false) {D : jj_D} {n : Nat} {K : jj_K} {I : jj_I} {P : jj_P} {G : jj_G} (hly : ly K P) {H M B N : Nat} {C : jj_I} {b y : Int32} (hs : sf 0 H M B N C) (hk : sk 0 H M B N C) (hm : ml 0 H M B N C I) (hz : mz M C I) (h_b : b < 0 ∨ nI B ≤ b) :
    jj_Met l D yX6_advise (jj_ws yX6_advise cX6_advise 8 (some .int)) { frames := 4, cells := 0, slots := 0, locals := 91 } [.ref 150, .int b, .int y] n K I P G (jj_R (some (.int 0)) (n) (K) (jj_u (jj_u I 150 0 0) 150 0 1) (P) (G)) jj_noX := by
  refine jj_of hfl (by decide +kernel) [some (.ref 150), some (.int b), some (.int y), none, none, none, none, none] rfl rfl ?_
  intro X hXl hX hSt
  have z := sf_Z hs
  have hm0 : ml 0 H M B N C (jj_u I 150 0 0) := ml_th hm z
  have hz0 : mz M C (jj_u I 150 0 0) := mz_th hz
  have hH0 := hm0.1.1
  have hM0 := hm0.1.2.1
  have hB0 := hm0.1.2.2.1
  have hN0 := hm0.1.2.2.2
  have hH2 := hs.1.2
  have hM2 := z.1
  have hB2 := z.2.1
  have hN2 := z.2.2
  refine jr_aload_n hX dX6_advise_0 rfl ?_
  refine jr_iconst (v := 0) hX dX6_advise_1 (by decide) ?_
  refine jr_puti hX kF_X6_40 rfl (ly_kMo hly) (by decide) dX6_advise_2 ?_
  refine jr_aload_n hX dX6_advise_5 rfl ?_
  refine jr_iload_n hX dX6_advise_6 rfl ?_
  refine jr_ret (jr_runV hX hSt kM_X6_121 (c_isBoat_x (jj_fl hX) hly h_b hB0 (by omega)) rfl rfl (ly_kMo hly) ⟨_, _, rfl, by decide⟩ dX6_advise_7 rfl ⟨jj_b1 rfl, jj_b1 rfl⟩ rfl) ?_
  refine jr_if_ne (tgt := 19) hX dX6_advise_10 (by decide) (fun c_10 => absurd rfl c_10) (fun c_10 => ?_)
  refine jr_aload_n hX dX6_advise_13 rfl ?_
  refine jr_iconst (v := 1) hX dX6_advise_14 (by decide) ?_
  refine jr_ret (jr_runV hX hSt kM_X6_57 (c_fail (jj_fl hX) hly) rfl rfl (ly_kMo hly) ⟨_, _, rfl, by decide⟩ dX6_advise_15 rfl ⟨jj_b1 rfl, jj_b1 rfl⟩ rfl) ?_
  exact jr_iret hX dX6_advise_18 rfl rfl ⟨rfl, rfl, rfl, rfl, rfl, rfl⟩
set_option maxHeartbeats 4000000 in
set_option maxRecDepth 100000 in
theorem m_advise_x2 {l : Launch} (hfl : l.stackTraces = false) {D : jj_D} {n : Nat} {K : jj_K} {I : jj_I} {P : jj_P} {G : jj_G} (hly : ly K P) {H M B N b : Nat} {C : jj_I} {y : Int32} (hs : sf 0 H M B N C) (hk : sk 0 H M B N C) (hm : ml 0 H M B N C I) (hz : mz M C I) (h_b : b < B) (h_y : y < 1 ∨ 120 < y) :
    jj_Met l D yX6_advise (jj_ws yX6_advise cX6_advise 8 (some .int)) { frames := 4, cells := 0, slots := 0, locals := 91 } [.ref 150, .int (nI b), .int y] n K I P G (jj_R (some (.int 0)) (n) (K) (jj_u (jj_u I 150 0 0) 150 0 2) (P) (G)) jj_noX := by
  refine jj_of hfl (by decide +kernel) [some (.ref 150), some (.int (nI b)), some (.int y), none, none, none, none, none] rfl rfl ?_
  intro X hXl hX hSt
  have z := sf_Z hs
  have hm0 : ml 0 H M B N C (jj_u I 150 0 0) := ml_th hm z
  have hz0 : mz M C (jj_u I 150 0 0) := mz_th hz
  have hH0 := hm0.1.1
  have hM0 := hm0.1.2.1
  have hB0 := hm0.1.2.2.1
  have hN0 := hm0.1.2.2.2
  have hH2 := hs.1.2
  have hM2 := z.1
  have hB2 := z.2.1
  have hN2 := z.2.2
  refine jr_aload_n hX dX6_advise_0 rfl ?_
  refine jr_iconst (v := 0) hX dX6_advise_1 (by decide) ?_
  refine jr_puti hX kF_X6_40 rfl (ly_kMo hly) (by decide) dX6_advise_2 ?_
  refine jr_aload_n hX dX6_advise_5 rfl ?_
  refine jr_iload_n hX dX6_advise_6 rfl ?_
  refine jr_ret (jr_runV hX hSt kM_X6_121 (c_isBoat_ok (jj_fl hX) hly h_b hB0 (by omega)) rfl rfl (ly_kMo hly) ⟨_, _, rfl, by decide⟩ dX6_advise_7 rfl ⟨jj_b1 rfl, jj_b1 rfl⟩ rfl) ?_
  refine jr_if_ne (tgt := 19) hX dX6_advise_10 (by decide) (fun c_10 => ?_) (fun c_10 => absurd c_10 (by decide))
  refine jr_iload_n hX dX6_advise_19 rfl ?_
  refine jr_iconst (v := 1) hX dX6_advise_20 (by decide) ?_
  refine jr_bipush (v := 120) hX dX6_advise_21 (by decide) ?_
  refine jr_ret (jr_runS hX hSt kM_X6_47 (c_isIn_x (jj_fl hX) (jm_nr h_y)) rfl rfl dX6_advise_23 rfl ⟨jj_b1 rfl, jj_b1 rfl⟩ rfl) ?_
  refine jr_if_ne (tgt := 35) hX dX6_advise_26 (by decide) (fun c_26 => absurd rfl c_26) (fun c_26 => ?_)
  refine jr_aload_n hX dX6_advise_29 rfl ?_
  refine jr_iconst (v := 2) hX dX6_advise_30 (by decide) ?_
  refine jr_ret (jr_runV hX hSt kM_X6_57 (c_fail (jj_fl hX) hly) rfl rfl (ly_kMo hly) ⟨_, _, rfl, by decide⟩ dX6_advise_31 rfl ⟨jj_b1 rfl, jj_b1 rfl⟩ rfl) ?_
  exact jr_iret hX dX6_advise_34 rfl rfl ⟨rfl, rfl, rfl, rfl, rfl, rfl⟩
set_option maxHeartbeats 4000000 in
set_option maxRecDepth 100000 in
theorem m_advise_s {l : Launch} (hfl : l.stackTraces = false) {D : jj_D} {n : Nat} {K : jj_K} {I : jj_I} {P : jj_P} {G : jj_G} (hly : ly K P) {H M B N b y : Nat} {C : jj_I} (hs : sf 0 H M B N C) (hk : sk 0 H M B N C) (hm : ml 0 H M B N C I) (hz : mz M C I) (h_b : b < B) (h_y : 1 ≤ y ∧ y ≤ 120) (h3 : C (aB 0 b) 3 = 3) :
    jj_Met l D yX6_advise (jj_ws yX6_advise cX6_advise 8 (some .int)) { frames := 4, cells := 0, slots := 0, locals := 91 } [.ref 150, .int (nI b), .int (nI y)] n K I P G (jj_R (some (.int (-1))) (n) (K) ((jj_u I 150 0 0)) (P) (G)) jj_noX := by
  refine jj_of hfl (by decide +kernel) [some (.ref 150), some (.int (nI b)), some (.int (nI y)), none, none, none, none, none] rfl rfl ?_
  intro X hXl hX hSt
  have z := sf_Z hs
  have hm0 : ml 0 H M B N C (jj_u I 150 0 0) := ml_th hm z
  have hz0 : mz M C (jj_u I 150 0 0) := mz_th hz
  have hH0 := hm0.1.1
  have hM0 := hm0.1.2.1
  have hB0 := hm0.1.2.2.1
  have hN0 := hm0.1.2.2.2
  have hH2 := hs.1.2
  have hM2 := z.1
  have hB2 := z.2.1
  have hN2 := z.2.2
  obtain ⟨q0, q1, q2, q3, -⟩ := ml_hB hm0 h_b
  refine jr_aload_n hX dX6_advise_0 rfl ?_
  refine jr_iconst (v := 0) hX dX6_advise_1 (by decide) ?_
  refine jr_puti hX kF_X6_40 rfl (ly_kMo hly) (by decide) dX6_advise_2 ?_
  refine jr_aload_n hX dX6_advise_5 rfl ?_
  refine jr_iload_n hX dX6_advise_6 rfl ?_
  refine jr_ret (jr_runV hX hSt kM_X6_121 (c_isBoat_ok (jj_fl hX) hly h_b hB0 (by omega)) rfl rfl (ly_kMo hly) ⟨_, _, rfl, by decide⟩ dX6_advise_7 rfl ⟨jj_b1 rfl, jj_b1 rfl⟩ rfl) ?_
  refine jr_if_ne (tgt := 19) hX dX6_advise_10 (by decide) (fun c_10 => ?_) (fun c_10 => absurd c_10 (by decide))
  refine jr_iload_n hX dX6_advise_19 rfl ?_
  refine jr_iconst (v := 1) hX dX6_advise_20 (by decide) ?_
  refine jr_bipush (v := 120) hX dX6_advise_21 (by decide) ?_
  refine jr_ret (jr_runS hX hSt kM_X6_47 (c_isIn_ok (jj_fl hX) (show nI 1 ≤ nI y ∧ nI y ≤ nI 120 from ⟨nI_le h_y.1 (by omega), nI_le h_y.2 (by omega)⟩)) rfl rfl dX6_advise_23 rfl ⟨jj_b1 rfl, jj_b1 rfl⟩ rfl) ?_
  refine jr_if_ne (tgt := 35) hX dX6_advise_26 (by decide) (fun c_26 => ?_) (fun c_26 => absurd c_26 (by decide))
  refine jr_aload_n hX dX6_advise_35 rfl ?_
  refine jr_iload_n hX dX6_advise_36 rfl ?_
  refine jr_iconst (v := 3) hX dX6_advise_37 (by decide) ?_
  refine jr_ret (jr_runV hX hSt kM_X6_74 (c_bo (jj_fl hX) hly (b := b) (k := 3) (by omega) (show _ = nI 3 from rfl) (by decide)) rfl rfl (ly_kMo hly) ⟨_, _, rfl, by decide⟩ dX6_advise_38 rfl ⟨jj_b1 rfl, jj_b1 rfl⟩ rfl) ?_
  rw [q3]
  refine jr_iconst (v := 3) hX dX6_advise_41 (by decide) ?_
  refine jr_icmp_ne (tgt := 47) hX dX6_advise_42 (by decide) (fun c_42 => absurd h3 c_42) (fun c_42 => ?_)
  refine jr_iconst (v := -1) hX dX6_advise_45 (by decide) ?_
  exact jr_iret hX dX6_advise_46 rfl rfl ⟨rfl, rfl, rfl, rfl, rfl, rfl⟩
set_option maxHeartbeats 8000000 in
set_option maxRecDepth 100000 in
theorem m_advise_ok {l : Launch} (hfl : l.stackTraces = false) {D : jj_D} {n : Nat} {K : jj_K} {I : jj_I} {P : jj_P} {G : jj_G} (hly : ly K P) {H M B N d b y : Nat} {C : jj_I} {Js : Nat → jj_I} (hs : sf 0 H M B N C) (hk0 : sk 0 H M B N C) (hm : ml 0 H M B N C I) (hz : mz M C I) (hd : C (aR 0) 0 = nI d) (hd2 : d < 2000000000) (hn : 161 ≤ n) (hKn : ∀ a, n ≤ a → K a = none) (he : sfE 0 H C) (hJs : ∀ k a, offT a → Js k a = C a) (h_b : b < B) (h_y : 1 ≤ y ∧ y ≤ 120) (h3 : ¬ C (aB 0 b) 3 = 3) :
    jj_Met l D yX6_advise (jj_ws yX6_advise cX6_advise 8 (some .int)) { frames := 4, cells := 15, slots := 558, locals := 91 } [.ref 150, .int (nI b), .int (nI y)] n K I P G (jj_RS (fun r J => r = some (.int (f_av (fun g => m_hl H M B N b d y g (Js g)) H).1) ∧ J 150 0 = 0 ∧ ml 0 H M B N C J ∧ mz M C J ∧ ∀ a, offN a → J a = I a) (n + 7 + H) K P G) jj_noX := by
  refine jj_of hfl (by decide +kernel) [some (.ref 150), some (.int (nI b)), some (.int (nI y)), none, none, none, none, none] rfl rfl ?_
  intro X hXl hX hSt
  have z := sf_Z hs
  have hm0 : ml 0 H M B N C (jj_u I 150 0 0) := ml_th hm z
  have hz0 : mz M C (jj_u I 150 0 0) := mz_th hz
  have hH0 := hm0.1.1
  have hM0 := hm0.1.2.1
  have hB0 := hm0.1.2.2.1
  have hN0 := hm0.1.2.2.2
  have hH2 := hs.1.2
  have hM2 := z.1
  have hB2 := z.2.1
  have hN2 := z.2.2
  obtain ⟨q0, q1, q2, q3, -⟩ := ml_hB hm0 h_b
  have kk := kK_k (n := n) (K := K)
  have pp := kP_k (n := n) (P := P)
  refine jr_aload_n hX dX6_advise_0 rfl ?_
  refine jr_iconst (v := 0) hX dX6_advise_1 (by decide) ?_
  refine jr_puti hX kF_X6_40 rfl (ly_kMo hly) (by decide) dX6_advise_2 ?_
  refine jr_aload_n hX dX6_advise_5 rfl ?_
  refine jr_iload_n hX dX6_advise_6 rfl ?_
  refine jr_ret (jr_runV hX hSt kM_X6_121 (c_isBoat_ok (jj_fl hX) hly h_b hB0 (by omega)) rfl rfl (ly_kMo hly) ⟨_, _, rfl, by decide⟩ dX6_advise_7 rfl ⟨by dsimp only; omega, by dsimp only; omega⟩ rfl) ?_
  refine jr_if_ne (tgt := 19) hX dX6_advise_10 (by decide) (fun c_10 => ?_) (fun c_10 => absurd c_10 (by decide))
  refine jr_iload_n hX dX6_advise_19 rfl ?_
  refine jr_iconst (v := 1) hX dX6_advise_20 (by decide) ?_
  refine jr_bipush (v := 120) hX dX6_advise_21 (by decide) ?_
  refine jr_ret (jr_runS hX hSt kM_X6_47 (c_isIn_ok (jj_fl hX) (show nI 1 ≤ nI y ∧ nI y ≤ nI 120 from ⟨nI_le h_y.1 (by omega), nI_le h_y.2 (by omega)⟩)) rfl rfl dX6_advise_23 rfl ⟨by dsimp only; omega, by dsimp only; omega⟩ rfl) ?_
  refine jr_if_ne (tgt := 35) hX dX6_advise_26 (by decide) (fun c_26 => ?_) (fun c_26 => absurd c_26 (by decide))
  refine jr_aload_n hX dX6_advise_35 rfl ?_
  refine jr_iload_n hX dX6_advise_36 rfl ?_
  refine jr_iconst (v := 3) hX dX6_advise_37 (by decide) ?_
  refine jr_ret (jr_runV hX hSt kM_X6_74 (c_bo (jj_fl hX) hly (b := b) (k := 3) (by omega) (show _ = nI 3 from rfl) (by decide)) rfl rfl (ly_kMo hly) ⟨_, _, rfl, by decide⟩ dX6_advise_38 rfl ⟨by dsimp only; omega, by dsimp only; omega⟩ rfl) ?_
  rw [q3]
  refine jr_iconst (v := 3) hX dX6_advise_41 (by decide) ?_
  refine jr_icmp_ne (tgt := 47) hX dX6_advise_42 (by decide) (fun c_42 => ?_) (fun c_42 => absurd c_42 h3)
  refine jr_aload_n hX dX6_advise_47 rfl ?_
  refine jr_rel (jr_runV hX hSt kM_X6_163 (c_kept (jj_fl hX) hly hn hKn) rfl rfl (ly_kMo hly) ⟨_, _, rfl, by decide⟩ dX6_advise_48 rfl ⟨by dsimp only; omega, by dsimp only; omega⟩ rfl) ?_
  rintro r J0 ⟨rfl, kr, k0⟩
  simp only [Option.toList, List.cons_append, List.nil_append]
  have hly := ly_k7 hly hn
  have b0 : bq n (jj_u I 150 0 0) J0 J0 H M B N C := ⟨ml_cg (fun _ _ _ => rfl) (fun a h1 h2 => ⟨fun e => by rw [k0 a (by omega)]; exact ⟨rfl, rfl, rfl, rfl⟩, fun _ => k0 a (by omega)⟩) z hm0, mz_cg hz0 (fun m _ _ => by rw [k0 156 (by omega)]) (fun m k _ _ _ => by rw [k0 157 (by omega)]) (fun _ _ _ => rfl), fun _ _ => rfl⟩
  refine jr_astore_n hX dX6_advise_51 rfl ?_
  refine jr_iconst (v := -1) hX dX6_advise_52 (by decide) ?_
  refine jr_istore hX dX6_advise_53 rfl ?_
  refine jr_iconst (v := 0) hX dX6_advise_55 (by decide) ?_
  refine jr_istore hX dX6_advise_56 rfl ?_
  refine jr_iconst (v := 0) hX dX6_advise_58 (by decide) ?_
  refine jr_istore hX dX6_advise_59 rfl ?_
  have hloop : ∀ k, k ≤ H → ∀ J : jj_I, bq n (jj_u I 150 0 0) J0 J H M B N C → jj_J X D 8 (7 + k) (510 + 6 * k) (jj_MQ X D { frames := 4, cells := 15, slots := 558, locals := 91 } (jj_RS (fun r J => r = some (.int (f_av (fun g => m_hl H M B N b d y g (Js g)) H).1) ∧ J 150 0 = 0 ∧ ml 0 H M B N C J ∧ mz M C J ∧ ∀ a, offN a → J a = I a) (n + 7 + H) K P G) jj_noX) (n + 7 + k) ((kK n K)) (J) ((kP n P)) (G) 61 [some (.ref 150), some (.int (nI b)), some (.int (nI y)), some (.ref n), some (.int (f_av (fun g => m_hl H M B N b d y g (Js g)) k).1), some (.int (f_av (fun g => m_hl H M B N b d y g (Js g)) k).2), some (.int (nI k)), none] [] := by
    refine jj_for (H) _ ?_ (fun k hk ihk => ?_)
    · intro J o1
      have hHJ : J 150 2 = nI H := o1.1.1.1
      refine jr_iload hX dX6_advise_61 rfl ?_
      refine jr_aload_n hX dX6_advise_63 rfl ?_
      refine jr_geti hX kF_X6_44 rfl (ly_kMo hly) dX6_advise_64 ?_
      refine jr_icmp_ge (tgt := 159) hX dX6_advise_67 (by decide) (fun c_67 => ?_) (fun c_67 => absurd (by rw [hHJ]; exact nI_le (Nat.le_refl _) (by omega)) c_67)
      refine jr_cl7 (I := I) hKn ?_
      refine jr_iload hX dX6_advise_159 rfl ?_
      exact jr_iret hX dX6_advise_161 (Nat.ble_eq.mpr (by dsimp only; omega)) (Nat.ble_eq.mpr (by dsimp only; omega)) ⟨⟨rfl, bq_fin hn z k0 o1⟩, rfl, rfl, rfl, rfl⟩
    · intro J o1
      have hHJ : J 150 2 = nI H := o1.1.1.1
      have hsk := sf_off hs (hJs k)
      obtain ⟨u1, u2, u3, u4, u5, u6⟩ := hb_ok hsk (sk_off hs hk0 (hJs k)) (sfE_cg (hJs k _ (Or.inl (by decide))) he) ((congrFun (hJs k _ (Or.inl (by decide))) 0).trans hd) h_b hk
      have m1 := ml_uGoal (v := nI k) (ml_cp hsk (ml_cg (fun a h1 h2 => hJs k a (Or.inl (by omega))) (fun a _ _ => ⟨fun e => ⟨rfl, rfl, rfl, rfl⟩, fun _ => rfl⟩) z o1.1)) z h_b
      have ds := hs_ok u3 u4 u5 u6 h_b
      refine jr_iload hX dX6_advise_61 rfl ?_
      refine jr_aload_n hX dX6_advise_63 rfl ?_
      refine jr_geti hX kF_X6_44 rfl (ly_kMo hly) dX6_advise_64 ?_
      refine jr_icmp_ge (tgt := 159) hX dX6_advise_67 (by decide) (fun c_67 => absurd c_67 (by rw [hHJ]; exact nI_ge (by assumption) (by omega))) (fun c_67 => ?_)
      refine jr_aload_n hX dX6_advise_70 rfl ?_
      refine jr_iload_n hX dX6_advise_71 rfl ?_
      refine jr_iconst (v := 5) hX dX6_advise_72 (by decide) ?_
      refine jr_iload hX dX6_advise_73 rfl ?_
      refine jr_void (jr_runV hX hSt kM_X6_124 (c_setBo (jj_fl hX) hly (b := b) (k := 5) (by omega) (show _ = nI 5 from rfl) (by decide)) rfl rfl (ly_kMo hly) ⟨_, _, rfl, by decide⟩ dX6_advise_75 rfl ⟨by dsimp only; omega, by dsimp only; omega⟩ rfl) ?_
      refine jr_aload_n hX dX6_advise_78 rfl ?_
      refine jr_iload_n hX dX6_advise_79 rfl ?_
      refine jr_rel (jr_runV hX hSt kM_X6_177 (c_shelter (jj_fl hX) hly u1 m1 h_b u2) rfl rfl (ly_kMo hly) ⟨_, _, rfl, by decide⟩ dX6_advise_80 rfl ⟨by dsimp only; omega, by dsimp only; omega⟩ rfl) ?_
      rintro r J1 ⟨rfl, p1, p2⟩
      simp only [Option.toList, List.nil_append]
      refine jr_iconst (v := 0) hX dX6_advise_83 (by decide) ?_
      refine jr_istore hX dX6_advise_84 rfl ?_
      have hin : ∀ j, j ≤ y → ∀ J2 : jj_I, ml 1 H M B N (m_hs H B N b d (f_hb0 M B N b k (Js k)) j) J2 → (∀ a, a < 155 ∨ 161 ≤ a → J2 a = J0 a) → jj_J X D 8 (7 + k) (510 + 6 * k) (jj_MQ X D { frames := 4, cells := 15, slots := 558, locals := 91 } (jj_RS (fun r J => r = some (.int (f_av (fun g => m_hl H M B N b d y g (Js g)) H).1) ∧ J 150 0 = 0 ∧ ml 0 H M B N C J ∧ mz M C J ∧ ∀ a, offN a → J a = I a) (n + 7 + H) K P G) jj_noX) (n + 7 + k) ((kK n K)) (J2) ((kP n P)) (G) 86 [some (.ref 150), some (.int (nI b)), some (.int (nI y)), some (.ref n), some (.int (f_av (fun g => m_hl H M B N b d y g (Js g)) k).1), some (.int (f_av (fun g => m_hl H M B N b d y g (Js g)) k).2), some (.int (nI k)), some (.int (nI j))] [] := by
        refine jj_for (y) _ ?_ (fun j hj ih => ?_)
        · intro J2 w1 w2
          obtain ⟨r0, r1, r2, r3, -⟩ := ml_hB w1 h_b
          have ehl : m_hl H M B N b d y k (Js k) = if (m_hs H B N b d (f_hb0 M B N b k (Js k)) y) (aB 1 b) 3 = 3 then 0 else (m_hs H B N b d (f_hb0 M B N b k (Js k)) y) (aB 1 b) 1 := rfl
          have bqn := bq_bb hn z hm0 hz0 kr k0 w2
          refine jr_iload hX dX6_advise_86 rfl ?_
          refine jr_iload_n hX dX6_advise_88 rfl ?_
          refine jr_icmp_ge (tgt := 108) hX dX6_advise_89 (by decide) (fun c_89 => ?_) (fun c_89 => absurd (nI_le (Nat.le_refl _) (by omega)) c_89)
          refine jr_aload_n hX dX6_advise_108 rfl ?_
          refine jr_iload_n hX dX6_advise_109 rfl ?_
          refine jr_iconst (v := 3) hX dX6_advise_110 (by decide) ?_
          refine jr_ret (jr_runV hX hSt kM_X6_74 (c_bo (jj_fl hX) hly (b := b) (k := 3) (by omega) (show _ = nI 3 from rfl) (by decide)) rfl rfl (ly_kMo hly) ⟨_, _, rfl, by decide⟩ dX6_advise_111 rfl ⟨by dsimp only; omega, by dsimp only; omega⟩ rfl) ?_
          rw [r3]
          refine jr_iconst (v := 3) hX dX6_advise_114 (by decide) ?_
          refine jr_icmp_ne (tgt := 122) hX dX6_advise_115 (by decide) (fun c_115 => ?_) (fun c_115 => ?_)
          · refine jr_aload_n hX dX6_advise_122 rfl ?_
            refine jr_iload_n hX dX6_advise_123 rfl ?_
            refine jr_iconst (v := 1) hX dX6_advise_124 (by decide) ?_
            refine jr_ret (jr_runV hX hSt kM_X6_74 (c_bo (jj_fl hX) hly (b := b) (k := 1) (by omega) (show _ = nI 1 from rfl) (by decide)) rfl rfl (ly_kMo hly) ⟨_, _, rfl, by decide⟩ dX6_advise_125 rfl ⟨by dsimp only; omega, by dsimp only; omega⟩ rfl) ?_
            rw [r1, show (m_hs H B N b d (f_hb0 M B N b k (Js k)) y) (aB 1 b) 1 = m_hl H M B N b d y k (Js k) from by rw [ehl, if_neg c_115]]
            refine jr_istore hX dX6_advise_128 rfl ?_
            refine jr_aload_n hX dX6_advise_130 rfl ?_
            refine jr_aload_n hX dX6_advise_131 rfl ?_
            refine jr_void (jr_runV hX hSt kM_X6_170 (c_bringBack (jj_fl hX) hly (q := n) ⟨hn, by omega⟩ kk.1 kk.2.1 kk.2.2.1 kk.2.2.2.1 kk.2.2.2.2.1 kk.2.2.2.2.2.1 kk.2.2.2.2.2.2 pp.1 pp.2.1 pp.2.2.1 pp.2.2.2.1 pp.2.2.2.2.1 pp.2.2.2.2.2 (fun a ha => by rw [kK_o (Or.inr (by omega))]; exact hKn a (by omega))) rfl rfl (ly_kMo hly) ⟨_, _, rfl, by decide⟩ dX6_advise_132 rfl ⟨by dsimp only; omega, by dsimp only; omega⟩ rfl) ?_
            refine jr_iload hX dX6_advise_135 rfl ?_
            refine jr_iload hX dX6_advise_137 rfl ?_
            refine jr_icmp_gt (tgt := 145) hX dX6_advise_139 (by decide) (fun c_139 => ?_) (fun c_139 => ?_)
            · refine jr_iload hX dX6_advise_145 rfl ?_
              refine jr_istore hX dX6_advise_147 rfl ?_
              refine jr_iload hX dX6_advise_149 rfl ?_
              refine jr_istore hX dX6_advise_151 rfl ?_
              refine jr_iinc hX dX6_advise_153 rfl (by first | with_reducible exact jj_inc _ | with_reducible exact jj_inc1 _) rfl ?_
              refine jr_goto (tgt := 61) hX dX6_advise_156 (by decide) ?_
              have av : f_av (fun g => m_hl H M B N b d y g (Js g)) (k + 1) = if (f_av (fun g => m_hl H M B N b d y g (Js g)) k).2 < m_hl H M B N b d y k (Js k) then (nI k, m_hl H M B N b d y k (Js k)) else f_av (fun g => m_hl H M B N b d y g (Js g)) k := rfl
              have e9 := ihk _ bqn
              rw [av, if_pos (by first | exact c_139 | (rw [eh0]; exact c_139))] at e9
              exact jr_forget (fun _ _ h => h) (fun i v h => by rcases i with _ | _ | _ | _ | _ | _ | _ | _ | i <;> first | exact h | exact absurd h (by simp)) (e9)
            · refine jr_goto (tgt := 153) hX dX6_advise_142 (by decide) ?_
              refine jr_iinc hX dX6_advise_153 rfl (by first | with_reducible exact jj_inc _ | with_reducible exact jj_inc1 _) rfl ?_
              refine jr_goto (tgt := 61) hX dX6_advise_156 (by decide) ?_
              have av : f_av (fun g => m_hl H M B N b d y g (Js g)) (k + 1) = if (f_av (fun g => m_hl H M B N b d y g (Js g)) k).2 < m_hl H M B N b d y k (Js k) then (nI k, m_hl H M B N b d y k (Js k)) else f_av (fun g => m_hl H M B N b d y g (Js g)) k := rfl
              have e9 := ihk _ bqn
              rw [av, if_neg (by first | exact c_139 | (rw [eh0]; exact c_139))] at e9
              exact jr_forget (fun _ _ h => h) (fun i v h => by rcases i with _ | _ | _ | _ | _ | _ | _ | _ | i <;> first | exact h | exact absurd h (by simp)) (e9)
          · refine jr_iconst (v := 0) hX dX6_advise_118 (by decide) ?_
            refine jr_goto (tgt := 128) hX dX6_advise_119 (by decide) ?_
            refine jr_istore hX dX6_advise_128 rfl ?_
            refine jr_aload_n hX dX6_advise_130 rfl ?_
            refine jr_aload_n hX dX6_advise_131 rfl ?_
            refine jr_void (jr_runV hX hSt kM_X6_170 (c_bringBack (jj_fl hX) hly (q := n) ⟨hn, by omega⟩ kk.1 kk.2.1 kk.2.2.1 kk.2.2.2.1 kk.2.2.2.2.1 kk.2.2.2.2.2.1 kk.2.2.2.2.2.2 pp.1 pp.2.1 pp.2.2.1 pp.2.2.2.1 pp.2.2.2.2.1 pp.2.2.2.2.2 (fun a ha => by rw [kK_o (Or.inr (by omega))]; exact hKn a (by omega))) rfl rfl (ly_kMo hly) ⟨_, _, rfl, by decide⟩ dX6_advise_132 rfl ⟨by dsimp only; omega, by dsimp only; omega⟩ rfl) ?_
            refine jr_iload hX dX6_advise_135 rfl ?_
            refine jr_iload hX dX6_advise_137 rfl ?_
            refine jr_icmp_gt (tgt := 145) hX dX6_advise_139 (by decide) (fun c_139 => ?_) (fun c_139 => ?_)
            · refine jr_iload hX dX6_advise_145 rfl ?_
              refine jr_istore hX dX6_advise_147 rfl ?_
              refine jr_iload hX dX6_advise_149 rfl ?_
              refine jr_istore hX dX6_advise_151 rfl ?_
              refine jr_iinc hX dX6_advise_153 rfl (by first | with_reducible exact jj_inc _ | with_reducible exact jj_inc1 _) rfl ?_
              refine jr_goto (tgt := 61) hX dX6_advise_156 (by decide) ?_
              have av : f_av (fun g => m_hl H M B N b d y g (Js g)) (k + 1) = if (f_av (fun g => m_hl H M B N b d y g (Js g)) k).2 < m_hl H M B N b d y k (Js k) then (nI k, m_hl H M B N b d y k (Js k)) else f_av (fun g => m_hl H M B N b d y g (Js g)) k := rfl
              have eh0 : m_hl H M B N b d y k (Js k) = 0 := by rw [ehl, if_pos c_115]
              have e9 := ihk _ bqn
              rw [av, if_pos (by first | exact c_139 | (rw [eh0]; exact c_139))] at e9
              rw [eh0] at e9
              exact jr_forget (fun _ _ h => h) (fun i v h => by rcases i with _ | _ | _ | _ | _ | _ | _ | _ | i <;> first | exact h | exact absurd h (by simp)) (e9)
            · refine jr_goto (tgt := 153) hX dX6_advise_142 (by decide) ?_
              refine jr_iinc hX dX6_advise_153 rfl (by first | with_reducible exact jj_inc _ | with_reducible exact jj_inc1 _) rfl ?_
              refine jr_goto (tgt := 61) hX dX6_advise_156 (by decide) ?_
              have av : f_av (fun g => m_hl H M B N b d y g (Js g)) (k + 1) = if (f_av (fun g => m_hl H M B N b d y g (Js g)) k).2 < m_hl H M B N b d y k (Js k) then (nI k, m_hl H M B N b d y k (Js k)) else f_av (fun g => m_hl H M B N b d y g (Js g)) k := rfl
              have eh0 : m_hl H M B N b d y k (Js k) = 0 := by rw [ehl, if_pos c_115]
              have e9 := ihk _ bqn
              rw [av, if_neg (by first | exact c_139 | (rw [eh0]; exact c_139))] at e9
              exact jr_forget (fun _ _ h => h) (fun i v h => by rcases i with _ | _ | _ | _ | _ | _ | _ | _ | i <;> first | exact h | exact absurd h (by simp)) (e9)
        · intro J2 w1 w2
          refine jr_iload hX dX6_advise_86 rfl ?_
          refine jr_iload_n hX dX6_advise_88 rfl ?_
          refine jr_icmp_ge (tgt := 108) hX dX6_advise_89 (by decide) (fun c_89 => absurd c_89 (nI_ge (by assumption) (by omega))) (fun c_89 => ?_)
          refine jr_aload_n hX dX6_advise_92 rfl ?_
          refine jr_rel (jr_runV hX hSt kM_X6_152 (c_dayOn (jj_fl hX) hly (ds j).1 w1 (ds j).2.1 (ds j).2.2.2 (by omega)) rfl rfl (ly_kMo hly) ⟨_, _, rfl, by decide⟩ dX6_advise_93 rfl ⟨by dsimp only; omega, by dsimp only; omega⟩ rfl) ?_
          rintro r J3 ⟨rfl, t1, t2⟩
          simp only [Option.toList, List.cons_append, List.nil_append]
          refine jr_pop hX dX6_advise_96 rfl ?_
          refine jr_aload_n hX dX6_advise_97 rfl ?_
          refine jr_iload_n hX dX6_advise_98 rfl ?_
          refine jr_rel (jr_runV hX hSt kM_X6_177 (c_shelter (jj_fl hX) hly (sf_pd (ds j).1) t1 h_b (sfE_cg (pd_be (ds j).1 (ds j).2.1) (ds j).2.2.1)) rfl rfl (ly_kMo hly) ⟨_, _, rfl, by decide⟩ dX6_advise_99 rfl ⟨by dsimp only; omega, by dsimp only; omega⟩ rfl) ?_
          rintro r J4 ⟨rfl, v1, v2⟩
          simp only [Option.toList, List.nil_append]
          refine jr_iinc hX dX6_advise_102 rfl (by first | with_reducible exact jj_inc _ | with_reducible exact jj_inc1 _) rfl ?_
          refine jr_goto (tgt := 86) hX dX6_advise_105 (by decide) ?_
          exact ih _ v1 (fun a ha => (v2 a (by omega)).trans ((t2.1 a (by unfold offM; exact ha)).trans (w2 a ha)))
      exact hin 0 (Nat.zero_le _) J1 p1 (fun a ha => (p2 a (by omega)).trans ((jj_u_ne (by omega)).trans (o1.2.2 a ha)))
  exact hloop 0 (Nat.zero_le _) J0 b0
