theorem la_nx {m M : Nat} (hm : m < M) (hM : 2 ≤ M) : ¬ m = (m + 1) % M := by
  by_cases e : m + 1 = M
  · rw [e, Nat.mod_self]; omega
  · rw [Nat.mod_eq_of_lt (by omega)]; omega
set_option maxHeartbeats 4000000 in
set_option maxRecDepth 100000 in
theorem l_act_9 {l : Launch} (hfl : l.stackTraces = false) {D : jj_D} {n : Nat} {K : jj_K} {I : jj_I} {P : jj_P} {G : jj_G} {A : Nat → Nat} {H M B N t : Nat} {x : Int32} (hv : lv A H M B N n t K I P) (ht : t + 2 ≤ 512) (e9 : bw (x >>> (9 &&& 31)) 10 = 9) :
    jj_Met l D yL_act (jj_ws yL_act cL_act 16 (some .boolean)) { frames := 9, cells := 2, slots := 38, locals := 159 } [.ref 1, .ref (A 0), .int x] n K I P G (fun r n1 K1 I1 P1 G1 => G1 = G ∧ r = some (.int 1) ∧ ∃ A1 N1, A1 0 = A 0 ∧ lv A1 H M B N1 n1 (t + 2) K1 I1 P1) jj_noX := by
  refine jj_of hfl (by decide +kernel) [some (.ref 1), some (.ref (A 0)), some (.int x), none, none, none, none, none, none, none, none, none, none, none, none, none] rfl rfl ?_
  intro X hXl hX hSt
  obtain ⟨hly, hsy, hms, htc, hdz, hH, hM, hB⟩ := id hv
  obtain ⟨hH8, hM5, hB10, hN30⟩ := id hsy.1
  have g0 := sy_lt hsy (t := 0) sv_0
  have g4 := sy_lt hsy (t := 4) sv_4
  refine jr_aload_n hX dL_act_0 rfl ?_
  refine jr_getr hX kF_L_41 rfl (sy_k0 hsy) (sy_p0_1 hsy) dL_act_1 ?_
  refine jr_alen (t := 15) hX (by decide) (sy_k5 hsy) dL_act_4 ?_
  refine jr_istore_n hX dL_act_5 rfl ?_
  refine jr_iload_n hX dL_act_6 rfl ?_
  refine jr_aload_n hX dL_act_7 rfl ?_
  refine jr_getr hX kF_L_49 rfl (sy_k0 hsy) (sy_p0_4 hsy) dL_act_8 ?_
  refine jr_alen (t := 10) hX (by decide) (sy_k4 hsy) dL_act_11 ?_
  refine jr_ret (jr_runS hX hSt kM_L_18 (l_below (jj_fl hX) (m := M) (rfl) ⟨by omega, by omega⟩) rfl rfl dL_act_12 rfl ⟨by simp only [jj_N]; omega, by simp only [jj_N]; omega⟩ rfl) ?_
  have hm := bw_lt (v := x) (m := M) (by omega)
  generalize bw x M = m at hm
  refine jr_istore hX dL_act_15 rfl ?_
  refine jr_iload_n hX dL_act_17 rfl ?_
  refine jr_iconst (v := 2) hX dL_act_18 (by decide) ?_
  refine jr_ishr hX dL_act_19 ?_
  refine jr_iload_n hX dL_act_20 rfl ?_
  refine jr_ret (jr_runS hX hSt kM_L_18 (l_below (jj_fl hX) (m := H) (rfl) ⟨by omega, by omega⟩) rfl rfl dL_act_21 rfl ⟨by simp only [jj_N]; omega, by simp only [jj_N]; omega⟩ rfl) ?_
  have hh := bw_lt (v := (x >>> (2 &&& 31))) (m := H) (by omega)
  generalize bw (x >>> (2 &&& 31)) H = h at hh
  refine jr_istore hX dL_act_24 rfl ?_
  refine jr_iload_n hX dL_act_26 rfl ?_
  refine jr_iconst (v := 3) hX dL_act_27 (by decide) ?_
  refine jr_ishr hX dL_act_28 ?_
  refine jr_iconst (v := 4) hX dL_act_29 (by decide) ?_
  refine jr_ret (jr_runS hX hSt kM_L_18 (l_below (jj_fl hX) (m := 4) (show _ = nI 4 from rfl) (by decide)) rfl rfl dL_act_30 rfl ⟨by simp only [jj_N]; omega, by simp only [jj_N]; omega⟩ rfl) ?_
  have hg := bw_lt (v := (x >>> (3 &&& 31))) (m := 4) (by decide)
  generalize bw (x >>> (3 &&& 31)) 4 = g at hg
  refine jr_istore hX dL_act_33 rfl ?_
  refine jr_iload_n hX dL_act_35 rfl ?_
  refine jr_iconst (v := 4) hX dL_act_36 (by decide) ?_
  refine jr_ishr hX dL_act_37 ?_
  refine jr_aload_n hX dL_act_38 rfl ?_
  refine jr_getr hX kF_L_62 rfl (sy_k0 hsy) (sy_p0_6 hsy) dL_act_39 ?_
  refine jr_alen (t := 17) hX (by decide) (sy_k6 hsy) dL_act_42 ?_
  refine jr_ret (jr_runS hX hSt kM_L_18 (l_below (jj_fl hX) (m := B) (rfl) ⟨by omega, by omega⟩) rfl rfl dL_act_43 rfl ⟨by simp only [jj_N]; omega, by simp only [jj_N]; omega⟩ rfl) ?_
  have hb := bw_lt (v := (x >>> (4 &&& 31))) (m := B) (by omega)
  generalize bw (x >>> (4 &&& 31)) B = b at hb
  obtain ⟨q0, q1, q2, q3, q4, q5, q6, q7, q8⟩ := hms.2.2.2.2.2.2.1 b hb
  have est := hms.2.2.2.2.2.2.2.2
  have gS := fun (m h : Nat) (hm : m < 5) (hh : h < 8) => sy_lt hsy (t := 110 + 8 * m + h) (sv_S hsy.1 hm hh)
  have gB := sy_lt hsy (t := 20 + b) (sv_B hsy.1 hb)
  have gG := sy_lt hsy (t := 40 + b) (sv_G hsy.1 hb)
  have hfB := htc.1.2.2.2.2.1 b hb
  refine jr_istore hX dL_act_46 rfl ?_
  refine jr_aload_n hX dL_act_48 rfl ?_
  refine jr_getr hX kF_L_62 rfl (sy_k0 hsy) (sy_p0_6 hsy) dL_act_49 ?_
  refine jr_iload hX dL_act_52 rfl ?_
  refine jr_aald (t := 17) hX (by decide) (sy_k6 hsy) rfl (by omega) (sy_qB hsy (by omega)) dL_act_54 ?_
  refine jr_astore hX dL_act_55 rfl ?_
  refine jr_iload_n hX dL_act_57 rfl ?_
  refine jr_bipush (v := 9) hX dL_act_58 (by decide) ?_
  refine jr_ishr hX dL_act_60 ?_
  refine jr_bipush (v := 10) hX dL_act_61 (by decide) ?_
  refine jr_ret (jr_runS hX hSt kM_L_18 (l_below (jj_fl hX) (m := 10) (show _ = nI 10 from rfl) (by decide)) rfl rfl dL_act_63 rfl ⟨by simp only [jj_N]; omega, by simp only [jj_N]; omega⟩ rfl) ?_
  rw [e9]
  refine jr_tabOut (tgt := 690) hX dL_act_66 (by decide) (by decide) ?_
  refine jr_iload hX dL_act_690 rfl ?_
  refine jr_iconst (v := 1) hX dL_act_692 (by decide) ?_
  refine jr_iadd hX dL_act_693 ?_
  rw [show nI m + 1 = nI (m + 1) from jj_inc m]
  refine jr_aload_n hX dL_act_694 rfl ?_
  refine jr_getr hX kF_L_49 rfl (sy_k0 hsy) (sy_p0_4 hsy) dL_act_695 ?_
  refine jr_alen (t := 10) hX (by decide) (sy_k4 hsy) dL_act_698 ?_
  refine jr_irem hX dL_act_699 (nI_ne0 (by omega) (by omega)) ?_
  rw [pk_rem (by omega) (by omega) (by omega)]
  obtain ⟨o, ho, eo⟩ : ∃ o, (o < M ∧ ¬ m = o) ∧ o = (m + 1) % M := ⟨_, ⟨Nat.mod_lt _ (by omega), la_nx hm (by omega)⟩, rfl⟩
  rw [← eo]
  obtain ⟨ho, hmo⟩ := ho
  refine jr_istore hX dL_act_700 rfl ?_
  refine jr_iload_n hX dL_act_702 rfl ?_
  refine jr_bipush (v := 7) hX dL_act_703 (by decide) ?_
  refine jr_ishr hX dL_act_705 ?_
  refine jr_iconst (v := 3) hX dL_act_706 (by decide) ?_
  refine jr_ret (jr_runS hX hSt kM_L_18 (l_below (jj_fl hX) (m := 3) (show _ = nI 3 from rfl) (by decide)) rfl rfl dL_act_707 rfl ⟨by simp only [jj_N]; omega, by simp only [jj_N]; omega⟩ rfl) ?_
  generalize bw (x >>> (7 &&& 31)) 3 = w
  refine jr_if_ne (tgt := 808) hX dL_act_710 (by decide) (fun c_710 => ?_) (fun c_710 => ?_)
  · refine jr_aload_n hX dL_act_808 rfl ?_
    refine jr_getr hX kF_L_132 rfl (sy_k0 hsy) (sy_p0_7 hsy) dL_act_809 ?_
    refine jr_alen (t := 15) hX (by decide) (sy_k7 hsy) dL_act_812 ?_
    refine jr_bipush (v := 30) hX dL_act_813 (by decide) ?_
    refine jr_icmp_eq (tgt := 834) hX dL_act_815 (by decide) (fun c_815 => ?_) (fun c_815 => ?_)
    · refine jr_iconst (v := 1) hX dL_act_834 (by decide) ?_
      exact jr_zret hX (Or.inr rfl) dL_act_835 (Nat.ble_eq.mpr (by first | (dsimp only; omega) | (simp only [jj_N]; omega))) (Nat.ble_eq.mpr (by first | (dsimp only; omega) | (simp only [jj_N]; omega))) ⟨rfl, rfl, A, N, rfl, lv_st hv (by omega) ht⟩
    · refine jr_aload_n hX dL_act_818 rfl ?_
      refine jr_getr hX kF_L_66 rfl (sy_k0 hsy) (sy_p0_5 hsy) dL_act_819 ?_
      refine jr_iload hX dL_act_822 rfl ?_
      refine jr_aald (t := 16) hX (by decide) (sy_k8 hsy) rfl (by omega) (sy_qM hsy (by omega)) dL_act_824 ?_
      refine jr_iload hX dL_act_825 rfl ?_
      refine jr_aald (t := 15) hX (by decide) (sy_kM hsy (by omega)) rfl (by omega) (sy_qS hsy (by omega) (by omega)) dL_act_827 ?_
      refine jr_iload hX dL_act_828 rfl ?_
      refine jr_iald hX (by first | with_reducible assumption | with_reducible exact sy_k0 hsy | with_reducible exact sy_k1 hsy | with_reducible exact sy_k2 hsy | with_reducible exact sy_k3 hsy | with_reducible exact sy_k4 hsy | with_reducible exact sy_k5 hsy | with_reducible exact sy_k6 hsy | with_reducible exact sy_k7 hsy | with_reducible exact sy_k8 hsy | with_reducible exact sy_kH hsy (by first | assumption | omega) | with_reducible exact sy_kB hsy (by first | assumption | omega) | with_reducible exact sy_kG hsy (by first | assumption | omega) | with_reducible exact sy_kD hsy (by first | assumption | omega) | with_reducible exact sy_kM hsy (by first | assumption | omega) | with_reducible exact sy_kS hsy (by first | assumption | omega) (by first | assumption | omega)) (by first | with_reducible rfl | with_reducible assumption | rfl) (by omega) dL_act_830 ?_
      rw [est m (by omega) h (by omega) g hg]
      refine jr_if_ne (tgt := 836) hX dL_act_831 (by decide) (fun c_831 => ?_) (fun c_831 => ?_)
      · have hN : N < 30 := by
          have : N ≠ 30 := fun e => c_815 (by rw [e]; rfl)
          omega
        obtain ⟨sv, hsv, esv⟩ := tc_st1 htc (show m < 5 by omega) (show 4 * h + g < 32 by omega) c_831
        obtain ⟨d, hd, ed⟩ := htc.2.2.1
        refine jr_iconst (v := 1) hX dL_act_836 (by decide) ?_
        refine jr_iload_n hX dL_act_837 rfl ?_
        refine jr_iconst (v := 5) hX dL_act_838 (by decide) ?_
        refine jr_ishr hX dL_act_839 ?_
        refine jr_aload_n hX dL_act_840 rfl ?_
        refine jr_getr hX kF_L_66 rfl (sy_k0 hsy) (sy_p0_5 hsy) dL_act_841 ?_
        refine jr_iload hX dL_act_844 rfl ?_
        refine jr_aald (t := 16) hX (by decide) (sy_k8 hsy) rfl (by omega) (sy_qM hsy (by omega)) dL_act_846 ?_
        refine jr_iload hX dL_act_847 rfl ?_
        refine jr_aald (t := 15) hX (by decide) (sy_kM hsy (by omega)) rfl (by omega) (sy_qS hsy (by omega) (by omega)) dL_act_849 ?_
        refine jr_iload hX dL_act_850 rfl ?_
        refine jr_iald hX (by first | with_reducible assumption | with_reducible exact sy_k0 hsy | with_reducible exact sy_k1 hsy | with_reducible exact sy_k2 hsy | with_reducible exact sy_k3 hsy | with_reducible exact sy_k4 hsy | with_reducible exact sy_k5 hsy | with_reducible exact sy_k6 hsy | with_reducible exact sy_k7 hsy | with_reducible exact sy_k8 hsy | with_reducible exact sy_kH hsy (by first | assumption | omega) | with_reducible exact sy_kB hsy (by first | assumption | omega) | with_reducible exact sy_kG hsy (by first | assumption | omega) | with_reducible exact sy_kD hsy (by first | assumption | omega) | with_reducible exact sy_kM hsy (by first | assumption | omega) | with_reducible exact sy_kS hsy (by first | assumption | omega) (by first | assumption | omega)) (by first | with_reducible rfl | with_reducible assumption | rfl) (by omega) dL_act_852 ?_
        rw [est m (by omega) h (by omega) g hg]
        refine jr_ret (jr_runS hX hSt kM_L_18 (l_below (jj_fl hX) (m := sv) (esv) ⟨by omega, by omega⟩) rfl rfl dL_act_853 rfl ⟨by simp only [jj_N]; omega, by simp only [jj_N]; omega⟩ rfl) ?_
        refine jr_iadd hX dL_act_856 ?_
        obtain ⟨y, hy, ey⟩ : ∃ y, (1 ≤ y ∧ y ≤ sv) ∧ y = 1 + bw (x >>> (5 &&& 31)) sv := ⟨_, ⟨by omega, by have := bw_lt (v := (x >>> (5 &&& 31))) (m := sv) (by omega); omega⟩, rfl⟩
        rw [show (1 : Int32) + nI (bw (x >>> (5 &&& 31)) sv) = nI (1 + bw (x >>> (5 &&& 31)) sv) from nI_add 1 _, ← ey]
        refine jr_istore hX dL_act_857 rfl ?_
        refine jr_aload_n hX dL_act_859 rfl ?_
        refine jr_geti hX kF_L_142 rfl (sy_k0 hsy) dL_act_860 ?_
        rw [hms.1, ed]
        refine jr_iload_n hX dL_act_863 rfl ?_
        refine jr_bipush (v := 6) hX dL_act_864 (by decide) ?_
        refine jr_ishr hX dL_act_866 ?_
        refine jr_bipush (v := 20) hX dL_act_867 (by decide) ?_
        refine jr_ret (jr_runS hX hSt kM_L_18 (l_below (jj_fl hX) (m := 20) (show _ = nI 20 from rfl) (by decide)) rfl rfl dL_act_869 rfl ⟨by simp only [jj_N]; omega, by simp only [jj_N]; omega⟩ rfl) ?_
        generalize hw2 : bw (x >>> (6 &&& 31)) 20 = w2
        have hw3 : w2 < 20 := by rw [← hw2]; exact bw_lt (by decide)
        refine jr_iadd hX dL_act_872 ?_
        rw [nI_add]
        refine jr_istore hX dL_act_873 rfl ?_
        refine jr_aload_n hX dL_act_875 rfl ?_
        refine jr_getr hX kF_L_66 rfl (sy_k0 hsy) (sy_p0_5 hsy) dL_act_876 ?_
        refine jr_iload hX dL_act_879 rfl ?_
        refine jr_aald (t := 16) hX (by decide) (sy_k8 hsy) rfl (by omega) (sy_qM hsy (by omega)) dL_act_881 ?_
        refine jr_iload hX dL_act_882 rfl ?_
        refine jr_aald (t := 15) hX (by decide) (sy_kM hsy (by omega)) rfl (by omega) (sy_qS hsy (by omega) (by omega)) dL_act_884 ?_
        refine jr_iload hX dL_act_885 rfl ?_
        refine jr_dup2 hX dL_act_887 rfl rfl ?_
        refine jr_iald hX (by first | with_reducible assumption | with_reducible exact sy_k0 hsy | with_reducible exact sy_k1 hsy | with_reducible exact sy_k2 hsy | with_reducible exact sy_k3 hsy | with_reducible exact sy_k4 hsy | with_reducible exact sy_k5 hsy | with_reducible exact sy_k6 hsy | with_reducible exact sy_k7 hsy | with_reducible exact sy_k8 hsy | with_reducible exact sy_kH hsy (by first | assumption | omega) | with_reducible exact sy_kB hsy (by first | assumption | omega) | with_reducible exact sy_kG hsy (by first | assumption | omega) | with_reducible exact sy_kD hsy (by first | assumption | omega) | with_reducible exact sy_kM hsy (by first | assumption | omega) | with_reducible exact sy_kS hsy (by first | assumption | omega) (by first | assumption | omega)) (by first | with_reducible rfl | with_reducible assumption | rfl) (by omega) dL_act_888 ?_
        refine jr_iload hX dL_act_889 rfl ?_
        refine jr_isub hX dL_act_891 ?_
        refine jr_iast hX (by first | with_reducible assumption | with_reducible exact sy_k0 hsy | with_reducible exact sy_k1 hsy | with_reducible exact sy_k2 hsy | with_reducible exact sy_k3 hsy | with_reducible exact sy_k4 hsy | with_reducible exact sy_k5 hsy | with_reducible exact sy_k6 hsy | with_reducible exact sy_k7 hsy | with_reducible exact sy_k8 hsy | with_reducible exact sy_kH hsy (by first | assumption | omega) | with_reducible exact sy_kB hsy (by first | assumption | omega) | with_reducible exact sy_kG hsy (by first | assumption | omega) | with_reducible exact sy_kD hsy (by first | assumption | omega) | with_reducible exact sy_kM hsy (by first | assumption | omega) | with_reducible exact sy_kS hsy (by first | assumption | omega) (by first | assumption | omega)) (by first | assumption | with_reducible exact sy_z0 hsy | with_reducible exact sy_z1 hsy | with_reducible exact sy_z2 hsy | with_reducible exact sy_z3 hsy | with_reducible exact sy_z4 hsy | with_reducible exact sy_zH hsy (by first | assumption | omega) | with_reducible exact sy_zB hsy (by first | assumption | omega) | with_reducible exact sy_zG hsy (by first | assumption | omega) | with_reducible exact sy_zD hsy (by first | assumption | omega) | with_reducible exact sy_zS hsy (by first | assumption | omega) (by first | assumption | omega) | omega) (by first | with_reducible rfl | with_reducible assumption | rfl) (by omega) dL_act_892 ?_
        refine jr_aload_n hX dL_act_893 rfl ?_
        refine jr_getr hX kF_L_66 rfl (sy_k0 hsy) (sy_p0_5 hsy) dL_act_894 ?_
        refine jr_iload hX dL_act_897 rfl ?_
        refine jr_aald (t := 16) hX (by decide) (sy_k8 hsy) rfl (by omega) (sy_qM hsy (by omega)) dL_act_899 ?_
        refine jr_iload hX dL_act_900 rfl ?_
        refine jr_aald (t := 15) hX (by decide) (sy_kM hsy (by omega)) rfl (by omega) (sy_qS hsy (by omega) (by omega)) dL_act_902 ?_
        refine jr_iload hX dL_act_903 rfl ?_
        refine jr_dup2 hX dL_act_905 rfl rfl ?_
        refine jr_iald hX (by first | with_reducible assumption | with_reducible exact sy_k0 hsy | with_reducible exact sy_k1 hsy | with_reducible exact sy_k2 hsy | with_reducible exact sy_k3 hsy | with_reducible exact sy_k4 hsy | with_reducible exact sy_k5 hsy | with_reducible exact sy_k6 hsy | with_reducible exact sy_k7 hsy | with_reducible exact sy_k8 hsy | with_reducible exact sy_kH hsy (by first | assumption | omega) | with_reducible exact sy_kB hsy (by first | assumption | omega) | with_reducible exact sy_kG hsy (by first | assumption | omega) | with_reducible exact sy_kD hsy (by first | assumption | omega) | with_reducible exact sy_kM hsy (by first | assumption | omega) | with_reducible exact sy_kS hsy (by first | assumption | omega) (by first | assumption | omega)) (by first | with_reducible rfl | with_reducible assumption | rfl) (by omega) dL_act_906 ?_
        refine jr_iload hX dL_act_907 rfl ?_
        refine jr_iadd hX dL_act_909 ?_
        refine jr_iast hX (by first | with_reducible assumption | with_reducible exact sy_k0 hsy | with_reducible exact sy_k1 hsy | with_reducible exact sy_k2 hsy | with_reducible exact sy_k3 hsy | with_reducible exact sy_k4 hsy | with_reducible exact sy_k5 hsy | with_reducible exact sy_k6 hsy | with_reducible exact sy_k7 hsy | with_reducible exact sy_k8 hsy | with_reducible exact sy_kH hsy (by first | assumption | omega) | with_reducible exact sy_kB hsy (by first | assumption | omega) | with_reducible exact sy_kG hsy (by first | assumption | omega) | with_reducible exact sy_kD hsy (by first | assumption | omega) | with_reducible exact sy_kM hsy (by first | assumption | omega) | with_reducible exact sy_kS hsy (by first | assumption | omega) (by first | assumption | omega)) (by first | assumption | with_reducible exact sy_z0 hsy | with_reducible exact sy_z1 hsy | with_reducible exact sy_z2 hsy | with_reducible exact sy_z3 hsy | with_reducible exact sy_z4 hsy | with_reducible exact sy_zH hsy (by first | assumption | omega) | with_reducible exact sy_zB hsy (by first | assumption | omega) | with_reducible exact sy_zG hsy (by first | assumption | omega) | with_reducible exact sy_zD hsy (by first | assumption | omega) | with_reducible exact sy_zS hsy (by first | assumption | omega) (by first | assumption | omega) | omega) (by first | with_reducible rfl | with_reducible assumption | rfl) (by omega) dL_act_910 ?_
        refine jr_aload_n hX dL_act_911 rfl ?_
        refine jr_aload_n hX dL_act_912 rfl ?_
        refine jr_getr hX kF_L_132 rfl (sy_k0 hsy) (sy_p0_7 hsy) dL_act_913 ?_
        refine jr_bipush (v := 7) hX dL_act_916 (by decide) ?_
        refine jr_newI hX kA_int (show _ = nI 7 from rfl) (by omega) dL_act_918 ⟨by dsimp only; omega, by dsimp only; omega⟩ ?_
        have hlyq : ly (jj_uK K n (10, 7)) P := ly_up hly (fun a ha => by unfold jj_uK; rw [if_neg (by omega)]) (fun a ha => rfl)
        have hsyq : sy A H M B N (n + 1) (jj_uK K n (10, 7)) P := sy_up hsy (by omega) (fun a ha => by unfold jj_uK; rw [if_neg (by omega)]) (fun a ha => rfl)
        refine jr_dup hX dL_act_920 rfl ?_
        refine jr_iconst (v := 0) hX dL_act_921 (by decide) ?_
        refine jr_iload hX dL_act_922 rfl ?_
        refine jr_iast hX (by unfold jj_uK; rw [if_pos rfl]) (by omega) (show _ = nI 0 from rfl) (by omega) dL_act_924 ?_
        refine jr_dup hX dL_act_925 rfl ?_
        refine jr_iconst (v := 1) hX dL_act_926 (by decide) ?_
        refine jr_iload hX dL_act_927 rfl ?_
        refine jr_iast hX (by unfold jj_uK; rw [if_pos rfl]) (by omega) (show _ = nI 1 from rfl) (by omega) dL_act_929 ?_
        refine jr_dup hX dL_act_930 rfl ?_
        refine jr_iconst (v := 2) hX dL_act_931 (by decide) ?_
        refine jr_iload hX dL_act_932 rfl ?_
        refine jr_iast hX (by unfold jj_uK; rw [if_pos rfl]) (by omega) (show _ = nI 2 from rfl) (by omega) dL_act_934 ?_
        refine jr_dup hX dL_act_935 rfl ?_
        refine jr_iconst (v := 3) hX dL_act_936 (by decide) ?_
        refine jr_iload hX dL_act_937 rfl ?_
        refine jr_iast hX (by unfold jj_uK; rw [if_pos rfl]) (by omega) (show _ = nI 3 from rfl) (by omega) dL_act_939 ?_
        refine jr_dup hX dL_act_940 rfl ?_
        refine jr_iconst (v := 4) hX dL_act_941 (by decide) ?_
        refine jr_iload hX dL_act_942 rfl ?_
        refine jr_iload hX dL_act_944 rfl ?_
        refine jr_bipush (v := 10) hX dL_act_946 (by decide) ?_
        refine jr_idiv hX dL_act_948 (by decide) ?_
        refine jr_iadd hX dL_act_949 ?_
        refine jr_iast hX (by unfold jj_uK; rw [if_pos rfl]) (by omega) (show _ = nI 4 from rfl) (by omega) dL_act_950 ?_
        refine jr_dup hX dL_act_951 rfl ?_
        refine jr_iconst (v := 5) hX dL_act_952 (by decide) ?_
        refine jr_iload hX dL_act_953 rfl ?_
        refine jr_iast hX (by unfold jj_uK; rw [if_pos rfl]) (by omega) (show _ = nI 5 from rfl) (by omega) dL_act_955 ?_
        refine jr_dup hX dL_act_956 rfl ?_
        refine jr_bipush (v := 6) hX dL_act_957 (by decide) ?_
        refine jr_iconst (v := 0) hX dL_act_959 (by decide) ?_
        refine jr_iast hX (by unfold jj_uK; rw [if_pos rfl]) (by omega) (show _ = nI 6 from rfl) (by omega) dL_act_960 ?_
        refine jr_ret (jr_runS hX hSt kM_L_45 (s_more (jj_fl hX) (a := A 7) (L := N) (q := n) (z := 7) (r := fun j => A (60 + j)) (sy_k7 hsyq) (by omega) (sy_lt hsyq sv_7).2 (by omega) (by unfold jj_uK; rw [if_pos rfl]) (by omega) (sy_rN hsyq)) rfl rfl dL_act_961 rfl ⟨by simp only [jj_N]; omega, by simp only [jj_N]; omega⟩ rfl) ?_
        refine jr_putr hX kF_L_132 rfl (by unfold jj_uK; rw [if_neg (by omega), if_neg (by omega)]; exact sy_k0 hsy) (sy_z0 hsy) dL_act_964 ?_
        have he : nI y ≤ I (aMt 0 m) (4 * h + g) := by rw [esv]; exact nI_le hy.2 (by omega)
        have L1 := la_lend (v := d + w2) hv ht hN hm ho hmo hh hg ⟨hy.1, by omega⟩ he
        have gm := gS m h (by omega) (by omega)
        have go := gS o h (by omega) (by omega)
        have eq : eqA (s_le A m o h g n (nI y) (nI (d + w2)) I) I := fun a ha => by
          unfold s_le
          try dsimp only
          rw [jj_u_ne (by omega), jj_u_ne (by omega), jj_u_ne (by omega), jj_u_ne (by omega), jj_u_ne (by omega), jj_u_ne (by omega), jj_u_ne (by omega), jj_uR_ne (by omega), jj_u_ne (by omega), jj_u_ne (by omega)]
        refine jr_I (I1 := s_le A m o h g n (nI y) (nI (d + w2)) I) rfl ?_
        have hly1 := L1.1
        generalize s_le A m o h g n (nI y) (nI (d + w2)) I = J at L1 eq
        refine jr_aload_n hX dL_act_967 rfl ?_
        refine jr_iload hX dL_act_968 rfl ?_
        refine jr_iload hX dL_act_970 rfl ?_
        refine jr_iload hX dL_act_972 rfl ?_
        refine jr_iload hX dL_act_974 rfl ?_
        refine jr_iload hX dL_act_976 rfl ?_
        refine jr_iload hX dL_act_978 rfl ?_
        refine jr_ret (jr_runV hX hSt kM_L_145 (c_lend_ok (jj_fl hX) hly1 (eqA_sf eq htc.1) hm ho hh hg hmo (by rw [show (1 : Int32) = nI 1 from rfl]; exact nI_le hy.1 (by omega)) (by rw [eq (aR 0) (by simp only [aR]; omega), ed]; exact nI_le (by omega) (by omega)) hN (by rw [eq (aMt 0 m) (by simp only [aMt]; omega), show h * 4 + g = 4 * h + g by omega]; exact he)) rfl rfl (ly_kI hly1) ⟨_, _, rfl, by decide⟩ dL_act_980 rfl ⟨by simp only [jj_N]; omega, by simp only [jj_N]; omega⟩ rfl) ?_
        generalize f_lend m o h g N (nI y) (nI (d + w2)) J = F at L1
        refine jr_aload_n hX dL_act_983 rfl ?_
        refine jr_getr hX kF_L_132 rfl (by unfold jj_uK; rw [if_neg (by omega), if_neg (by omega)]; exact sy_k0 hsy) (by rw [jj_u_eq]) dL_act_984 ?_
        refine jr_alen (t := 15) hX (by decide) (by unfold jj_uK; rw [if_pos rfl]) dL_act_987 ?_
        refine jr_iconst (v := 1) hX dL_act_988 (by decide) ?_
        refine jr_isub hX dL_act_989 ?_
        rw [nI_pred]
        refine jr_icmp_ne (tgt := 997) hX dL_act_990 (by decide) (fun c_990 => absurd c_990 (show ¬ ¬ _ = _ from fun q => q rfl)) (fun c_990 => ?_)
        refine jr_iconst (v := 1) hX dL_act_993 (by decide) ?_
        refine jr_goto (tgt := 998) hX dL_act_994 (by decide) ?_
        exact jr_zret hX (Or.inr rfl) dL_act_998 (Nat.ble_eq.mpr (by first | (dsimp only; omega) | (simp only [jj_N]; omega))) (Nat.ble_eq.mpr (by first | (dsimp only; omega) | (simp only [jj_N]; omega))) ⟨rfl, rfl, _, (N + 1), (by (try dsimp only); rw [if_neg (by decide), if_neg (by omega)]), L1⟩
      · refine jr_iconst (v := 1) hX dL_act_834 (by decide) ?_
        exact jr_zret hX (Or.inr rfl) dL_act_835 (Nat.ble_eq.mpr (by first | (dsimp only; omega) | (simp only [jj_N]; omega))) (Nat.ble_eq.mpr (by first | (dsimp only; omega) | (simp only [jj_N]; omega))) ⟨rfl, rfl, A, N, rfl, lv_st hv (by omega) ht⟩
  · refine jr_iconst (v := 0) hX dL_act_713 (by decide) ?_
    refine jr_istore hX dL_act_714 rfl ?_
    have h1 : ∀ d, d ≤ N → jj_J X D 16 (0) (0) (jj_MQ X D { frames := 9, cells := 2, slots := 38, locals := 159 } (fun r n1 K1 I1 P1 G1 => G1 = G ∧ r = some (.int 1) ∧ ∃ A1 N1, A1 0 = A 0 ∧ lv A1 H M B N1 n1 (t + 2) K1 I1 P1) jj_noX) (n) (K) (I) (P) (G) 716 [some (.ref 1), some (.ref (A 0)), some (.int x), some (.int (nI H)), some (.int (nI m)), some (.int (nI h)), some (.int (nI g)), some (.int (nI b)), some (.ref (A (20 + b))), none, none, none, none, some (.int (nI o)), some (.int (nI d)), none] [] := by
      refine jj_for (N) _ ?_ (fun d hd ih => ?_)
      · refine jr_iload hX dL_act_716 rfl ?_
        refine jr_aload_n hX dL_act_718 rfl ?_
        refine jr_getr hX kF_L_132 rfl (sy_k0 hsy) (sy_p0_7 hsy) dL_act_719 ?_
        refine jr_alen (t := 15) hX (by decide) (sy_k7 hsy) dL_act_722 ?_
        refine jr_icmp_ge (tgt := 806) hX dL_act_723 (by decide) (fun c_723 => ?_) (fun c_723 => absurd (nI_le (Nat.le_refl _) (by omega)) c_723)
        refine jr_iconst (v := 1) hX dL_act_806 (by decide) ?_
        exact jr_zret hX (Or.inr rfl) dL_act_807 (Nat.ble_eq.mpr (by first | (dsimp only; omega) | (simp only [jj_N]; omega))) (Nat.ble_eq.mpr (by first | (dsimp only; omega) | (simp only [jj_N]; omega))) ⟨rfl, rfl, A, N, rfl, lv_st hv (by omega) ht⟩
      · have ed := hms.2.2.2.2.2.2.2.1 d hd
        obtain ⟨⟨a, ha, ea⟩, ⟨q, hq, eq1⟩, -, ⟨gg, hgg, egg⟩⟩ := htc.1.2.2.2.2.2 d hd
        refine jr_iload hX dL_act_716 rfl ?_
        refine jr_aload_n hX dL_act_718 rfl ?_
        refine jr_getr hX kF_L_132 rfl (sy_k0 hsy) (sy_p0_7 hsy) dL_act_719 ?_
        refine jr_alen (t := 15) hX (by decide) (sy_k7 hsy) dL_act_722 ?_
        refine jr_icmp_ge (tgt := 806) hX dL_act_723 (by decide) (fun c_723 => absurd c_723 (nI_ge (by assumption) (by omega))) (fun c_723 => ?_)
        refine jr_aload_n hX dL_act_726 rfl ?_
        refine jr_getr hX kF_L_132 rfl (sy_k0 hsy) (sy_p0_7 hsy) dL_act_727 ?_
        refine jr_iload hX dL_act_730 rfl ?_
        refine jr_aald (t := 15) hX (by decide) (sy_k7 hsy) rfl (by omega) (sy_qD hsy (by omega)) dL_act_732 ?_
        refine jr_astore hX dL_act_733 rfl ?_
        refine jr_aload hX dL_act_735 rfl ?_
        refine jr_bipush (v := 6) hX dL_act_737 (by decide) ?_
        refine jr_iald hX (by first | with_reducible assumption | with_reducible exact sy_k0 hsy | with_reducible exact sy_k1 hsy | with_reducible exact sy_k2 hsy | with_reducible exact sy_k3 hsy | with_reducible exact sy_k4 hsy | with_reducible exact sy_k5 hsy | with_reducible exact sy_k6 hsy | with_reducible exact sy_k7 hsy | with_reducible exact sy_k8 hsy | with_reducible exact sy_kH hsy (by first | assumption | omega) | with_reducible exact sy_kB hsy (by first | assumption | omega) | with_reducible exact sy_kG hsy (by first | assumption | omega) | with_reducible exact sy_kD hsy (by first | assumption | omega) | with_reducible exact sy_kM hsy (by first | assumption | omega) | with_reducible exact sy_kS hsy (by first | assumption | omega) (by first | assumption | omega)) (show _ = nI 6 from rfl) (by omega) dL_act_739 ?_
        rw [ed 6 (by decide)]
        refine jr_if_gt (tgt := 800) hX dL_act_740 (by decide) (fun c_740 => ?_) (fun c_740 => ?_)
        · refine jr_iinc hX dL_act_800 rfl (by first | with_reducible exact jj_inc _ | with_reducible exact jj_inc1 _) rfl ?_
          refine jr_goto (tgt := 716) hX dL_act_803 (by decide) ?_
          exact jr_forget (fun _ _ h => h) (fun i v h => by rcases i with _ | _ | _ | _ | _ | _ | _ | _ | _ | _ | _ | _ | _ | _ | _ | _ | i <;> first | exact h | exact absurd h (by simp)) (ih)
        · have e6 : I (aD 0 d) 6 = 0 := by
            rcases hdz d hd with e | e | e
            · exact e
            · rw [e] at c_740; exact absurd (by decide) c_740
            · rw [e] at c_740; exact absurd (by decide) c_740
          refine jr_aload_n hX dL_act_743 rfl ?_
          refine jr_getr hX kF_L_66 rfl (sy_k0 hsy) (sy_p0_5 hsy) dL_act_744 ?_
          refine jr_aload hX dL_act_747 rfl ?_
          refine jr_iconst (v := 1) hX dL_act_749 (by decide) ?_
          refine jr_iald hX (by first | with_reducible assumption | with_reducible exact sy_k0 hsy | with_reducible exact sy_k1 hsy | with_reducible exact sy_k2 hsy | with_reducible exact sy_k3 hsy | with_reducible exact sy_k4 hsy | with_reducible exact sy_k5 hsy | with_reducible exact sy_k6 hsy | with_reducible exact sy_k7 hsy | with_reducible exact sy_k8 hsy | with_reducible exact sy_kH hsy (by first | assumption | omega) | with_reducible exact sy_kB hsy (by first | assumption | omega) | with_reducible exact sy_kG hsy (by first | assumption | omega) | with_reducible exact sy_kD hsy (by first | assumption | omega) | with_reducible exact sy_kM hsy (by first | assumption | omega) | with_reducible exact sy_kS hsy (by first | assumption | omega) (by first | assumption | omega)) (show _ = nI 1 from rfl) (by omega) dL_act_750 ?_
          rw [ed 1 (by decide), eq1]
          refine jr_aald (t := 16) hX (by decide) (sy_k8 hsy) rfl (by omega) (sy_qM hsy (by omega)) dL_act_751 ?_
          refine jr_iload hX dL_act_752 rfl ?_
          refine jr_aald (t := 15) hX (by decide) (sy_kM hsy (by omega)) rfl (by omega) (sy_qS hsy (by omega) (by omega)) dL_act_754 ?_
          refine jr_aload hX dL_act_755 rfl ?_
          refine jr_iconst (v := 3) hX dL_act_757 (by decide) ?_
          refine jr_iald hX (by first | with_reducible assumption | with_reducible exact sy_k0 hsy | with_reducible exact sy_k1 hsy | with_reducible exact sy_k2 hsy | with_reducible exact sy_k3 hsy | with_reducible exact sy_k4 hsy | with_reducible exact sy_k5 hsy | with_reducible exact sy_k6 hsy | with_reducible exact sy_k7 hsy | with_reducible exact sy_k8 hsy | with_reducible exact sy_kH hsy (by first | assumption | omega) | with_reducible exact sy_kB hsy (by first | assumption | omega) | with_reducible exact sy_kG hsy (by first | assumption | omega) | with_reducible exact sy_kD hsy (by first | assumption | omega) | with_reducible exact sy_kM hsy (by first | assumption | omega) | with_reducible exact sy_kS hsy (by first | assumption | omega) (by first | assumption | omega)) (show _ = nI 3 from rfl) (by omega) dL_act_758 ?_
          rw [ed 3 (by decide), egg]
          refine jr_iald hX (by first | with_reducible assumption | with_reducible exact sy_k0 hsy | with_reducible exact sy_k1 hsy | with_reducible exact sy_k2 hsy | with_reducible exact sy_k3 hsy | with_reducible exact sy_k4 hsy | with_reducible exact sy_k5 hsy | with_reducible exact sy_k6 hsy | with_reducible exact sy_k7 hsy | with_reducible exact sy_k8 hsy | with_reducible exact sy_kH hsy (by first | assumption | omega) | with_reducible exact sy_kB hsy (by first | assumption | omega) | with_reducible exact sy_kG hsy (by first | assumption | omega) | with_reducible exact sy_kD hsy (by first | assumption | omega) | with_reducible exact sy_kM hsy (by first | assumption | omega) | with_reducible exact sy_kS hsy (by first | assumption | omega) (by first | assumption | omega)) rfl (by omega) dL_act_759 ?_
          refine jr_aload hX dL_act_760 rfl ?_
          refine jr_iconst (v := 4) hX dL_act_762 (by decide) ?_
          refine jr_iald hX (by first | with_reducible assumption | with_reducible exact sy_k0 hsy | with_reducible exact sy_k1 hsy | with_reducible exact sy_k2 hsy | with_reducible exact sy_k3 hsy | with_reducible exact sy_k4 hsy | with_reducible exact sy_k5 hsy | with_reducible exact sy_k6 hsy | with_reducible exact sy_k7 hsy | with_reducible exact sy_k8 hsy | with_reducible exact sy_kH hsy (by first | assumption | omega) | with_reducible exact sy_kB hsy (by first | assumption | omega) | with_reducible exact sy_kG hsy (by first | assumption | omega) | with_reducible exact sy_kD hsy (by first | assumption | omega) | with_reducible exact sy_kM hsy (by first | assumption | omega) | with_reducible exact sy_kS hsy (by first | assumption | omega) (by first | assumption | omega)) (show _ = nI 4 from rfl) (by omega) dL_act_763 ?_
          refine jr_icmp_ge (tgt := 770) hX dL_act_764 (by decide) (fun c_764 => ?_) (fun c_764 => ?_)
          · refine jr_aload_n hX dL_act_770 rfl ?_
            refine jr_aload hX dL_act_771 rfl ?_
            refine jr_iload hX dL_act_773 rfl ?_
            refine jr_ret (jr_runV hX hSt kM_L_135 (s_pays_y (jj_fl hX) hsy hd (by omega) ((ed 0 (by decide)).trans ea) ha ((ed 1 (by decide)).trans eq1) hq ((ed 3 (by decide)).trans egg) hgg c_764) rfl rfl (sy_k0 hsy) ⟨_, _, rfl, by decide⟩ dL_act_775 rfl ⟨by simp only [jj_N]; omega, by simp only [jj_N]; omega⟩ rfl) ?_
            have he : I (aD 0 d) 4 ≤ I (aMt 0 q) (4 * h + gg) := by have := c_764; rw [ed 4 (by decide), est q (by omega) h (by omega) gg hgg] at this; exact this
            obtain ⟨L1, -⟩ := la_repay hv ht hd hh ea eq1 egg ha hq hgg he
            have gq := gS q h (by omega) (by omega)
            have ga := gS a h (by omega) (by omega)
            have gd := sy_lt hsy (t := 60 + d) (sv_D hsy.1 hd)
            have eq : eqA (s_py A a q h gg d I) I := by
              unfold s_py
              exact eqA_w (eqA_w (eqA_w (fun _ _ => rfl) gq.1) ga.1) gd.1
            generalize s_py A a q h gg d I = J at L1 eq
            have eD := eq (aD 0 d) (by simp only [aD]; omega)
            refine jr_pop hX dL_act_778 rfl ?_
            refine jr_aload_n hX dL_act_779 rfl ?_
            refine jr_iload hX dL_act_780 rfl ?_
            refine jr_iload hX dL_act_782 rfl ?_
            refine jr_ret (jr_runV hX hSt kM_L_139 (c_repay_ok (jj_fl hX) hly (eqA_sf eq htc.1) hd hh (by rw [eD]; exact e6) (by rw [eD, eq1, egg, nv_nI (by omega), nv_nI (by omega), show h * 4 + gg = 4 * h + gg by omega, eq (aMt 0 q) (by simp only [aMt]; omega)]; exact he)) rfl rfl (ly_kI hly) ⟨_, _, rfl, by decide⟩ dL_act_784 rfl ⟨by simp only [jj_N]; omega, by simp only [jj_N]; omega⟩ rfl) ?_
            generalize f_repay d h J = F at L1
            have es1 := L1.2.2.1.2.2.2.2.2.2.2.1 d hd
            refine jr_aload hX dL_act_787 rfl ?_
            refine jr_iconst (v := 4) hX dL_act_789 (by decide) ?_
            refine jr_iald hX (by first | with_reducible assumption | with_reducible exact sy_k0 hsy | with_reducible exact sy_k1 hsy | with_reducible exact sy_k2 hsy | with_reducible exact sy_k3 hsy | with_reducible exact sy_k4 hsy | with_reducible exact sy_k5 hsy | with_reducible exact sy_k6 hsy | with_reducible exact sy_k7 hsy | with_reducible exact sy_k8 hsy | with_reducible exact sy_kH hsy (by first | assumption | omega) | with_reducible exact sy_kB hsy (by first | assumption | omega) | with_reducible exact sy_kG hsy (by first | assumption | omega) | with_reducible exact sy_kD hsy (by first | assumption | omega) | with_reducible exact sy_kM hsy (by first | assumption | omega) | with_reducible exact sy_kS hsy (by first | assumption | omega) (by first | assumption | omega)) (show _ = nI 4 from rfl) (by omega) dL_act_790 ?_
            rw [es1 4 (by decide)]
            refine jr_icmp_ne (tgt := 798) hX dL_act_791 (by decide) (fun c_791 => absurd c_791 (show ¬ ¬ _ = _ from fun q => q rfl)) (fun c_791 => ?_)
            refine jr_iconst (v := 1) hX dL_act_794 (by decide) ?_
            refine jr_goto (tgt := 799) hX dL_act_795 (by decide) ?_
            exact jr_zret hX (Or.inr rfl) dL_act_799 (Nat.ble_eq.mpr (by first | (dsimp only; omega) | (simp only [jj_N]; omega))) (Nat.ble_eq.mpr (by first | (dsimp only; omega) | (simp only [jj_N]; omega))) ⟨rfl, rfl, A, N, rfl, L1⟩
          · refine jr_goto (tgt := 800) hX dL_act_767 (by decide) ?_
            refine jr_iinc hX dL_act_800 rfl (by first | with_reducible exact jj_inc _ | with_reducible exact jj_inc1 _) rfl ?_
            refine jr_goto (tgt := 716) hX dL_act_803 (by decide) ?_
            exact jr_forget (fun _ _ h => h) (fun i v h => by rcases i with _ | _ | _ | _ | _ | _ | _ | _ | _ | _ | _ | _ | _ | _ | _ | _ | i <;> first | exact h | exact absurd h (by simp)) (ih)
    exact h1 0 (Nat.zero_le _)
