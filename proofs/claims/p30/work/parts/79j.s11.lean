theorem la_lt {a b : Nat} (h : ¬ nI b ≤ nI a) (hb : a < 2147483648 ∧ b < 2147483648) : a < b := by
  have : ¬ b ≤ a := fun q => h (nI_le q (by omega))
  omega
theorem la_pts {I : jj_I} {b o hu co : Nat} (e0 : I (aB 0 b) 0 = nI o) (ho : o < 5) (ehu : I (aB 0 b) 1 = nI hu) (hhu : hu ≤ 20) (eco : I (aM 0 o) 0 = nI co) (hco : co ≤ 2560000) : f_pts b I = nI (if co / 3 < 20 - hu then co / 3 else 20 - hu) := by
  unfold f_pts
  rw [e0, nv_nI (by omega), eco, ehu, show (20 : Int32) = nI 20 from rfl, nI_sb hhu, show (3 : Int32) = nI 3 from rfl, pk_div (by omega) (by decide) (by decide)]
  exact mn_nI (by omega) (by omega)
set_option maxHeartbeats 4000000 in
set_option maxRecDepth 100000 in
theorem l_act_8 {l : Launch} (hfl : l.stackTraces = false) {D : jj_D} {n : Nat} {K : jj_K} {I : jj_I} {P : jj_P} {G : jj_G} {A : Nat → Nat} {H M B N t : Nat} {x : Int32} (hv : lv A H M B N n t K I P) (ht : t + 2 ≤ 512) (e9 : bw (x >>> (9 &&& 31)) 10 = 8) :
    jj_Met l D yL_act (jj_ws yL_act cL_act 16 (some .boolean)) { frames := 9, cells := 2, slots := 38, locals := 159 } [.ref 1, .ref (A 0), .int x] n K I P G (fun r n1 K1 I1 P1 G1 => G1 = G ∧ r = some (.int 1) ∧ ∃ A1 N1, A1 0 = A 0 ∧ lv A1 H M B N1 n1 (t + 2) K1 I1 P1) jj_noX := by
  refine jj_of hfl (by decide +kernel) [some (.ref 1), some (.ref (A 0)), some (.int x), none, none, none, none, none, none, none, none, none, none, none, none, none] rfl rfl ?_
  intro X hXl hX hSt
  obtain ⟨hly, hsy, hms, htc, hdz, hH, hM, hB⟩ := id hv
  obtain ⟨hH8, hM5, hB10, hN30⟩ := id hsy.1
  have g0 := sy_lt hsy (t := 0) sv_0
  have g4 := sy_lt hsy (t := 4) sv_4
  refine jr_aload_n hX dL_act_0 rfl ?_
  refine jr_getr hX kF_L_41 rfl (sy_k0 hsy) (sy_p0_1 hsy) dL_act_1 ?_
  refine jr_alen (t := 15) hX (by decide) (sy_k5 hsy) dL_act_4 ?_
  refine jr_istore_n hX dL_act_5 rfl ?_
  refine jr_iload_n hX dL_act_6 rfl ?_
  refine jr_aload_n hX dL_act_7 rfl ?_
  refine jr_getr hX kF_L_49 rfl (sy_k0 hsy) (sy_p0_4 hsy) dL_act_8 ?_
  refine jr_alen (t := 10) hX (by decide) (sy_k4 hsy) dL_act_11 ?_
  refine jr_ret (jr_runS hX hSt kM_L_18 (l_below (jj_fl hX) (m := M) (rfl) ⟨by omega, by omega⟩) rfl rfl dL_act_12 rfl ⟨by simp only [jj_N]; omega, by simp only [jj_N]; omega⟩ rfl) ?_
  have hm := bw_lt (v := x) (m := M) (by omega)
  generalize bw x M = m at hm
  refine jr_istore hX dL_act_15 rfl ?_
  refine jr_iload_n hX dL_act_17 rfl ?_
  refine jr_iconst (v := 2) hX dL_act_18 (by decide) ?_
  refine jr_ishr hX dL_act_19 ?_
  refine jr_iload_n hX dL_act_20 rfl ?_
  refine jr_ret (jr_runS hX hSt kM_L_18 (l_below (jj_fl hX) (m := H) (rfl) ⟨by omega, by omega⟩) rfl rfl dL_act_21 rfl ⟨by simp only [jj_N]; omega, by simp only [jj_N]; omega⟩ rfl) ?_
  have hh := bw_lt (v := (x >>> (2 &&& 31))) (m := H) (by omega)
  generalize bw (x >>> (2 &&& 31)) H = h at hh
  refine jr_istore hX dL_act_24 rfl ?_
  refine jr_iload_n hX dL_act_26 rfl ?_
  refine jr_iconst (v := 3) hX dL_act_27 (by decide) ?_
  refine jr_ishr hX dL_act_28 ?_
  refine jr_iconst (v := 4) hX dL_act_29 (by decide) ?_
  refine jr_ret (jr_runS hX hSt kM_L_18 (l_below (jj_fl hX) (m := 4) (show _ = nI 4 from rfl) (by decide)) rfl rfl dL_act_30 rfl ⟨by simp only [jj_N]; omega, by simp only [jj_N]; omega⟩ rfl) ?_
  have hg := bw_lt (v := (x >>> (3 &&& 31))) (m := 4) (by decide)
  generalize bw (x >>> (3 &&& 31)) 4 = g at hg
  refine jr_istore hX dL_act_33 rfl ?_
  refine jr_iload_n hX dL_act_35 rfl ?_
  refine jr_iconst (v := 4) hX dL_act_36 (by decide) ?_
  refine jr_ishr hX dL_act_37 ?_
  refine jr_aload_n hX dL_act_38 rfl ?_
  refine jr_getr hX kF_L_62 rfl (sy_k0 hsy) (sy_p0_6 hsy) dL_act_39 ?_
  refine jr_alen (t := 17) hX (by decide) (sy_k6 hsy) dL_act_42 ?_
  refine jr_ret (jr_runS hX hSt kM_L_18 (l_below (jj_fl hX) (m := B) (rfl) ⟨by omega, by omega⟩) rfl rfl dL_act_43 rfl ⟨by simp only [jj_N]; omega, by simp only [jj_N]; omega⟩ rfl) ?_
  have hb := bw_lt (v := (x >>> (4 &&& 31))) (m := B) (by omega)
  generalize bw (x >>> (4 &&& 31)) B = b at hb
  obtain ⟨q0, q1, q2, q3, q4, q5, q6, q7, q8⟩ := hms.2.2.2.2.2.2.1 b hb
  have est := hms.2.2.2.2.2.2.2.2
  have gS := fun (m h : Nat) (hm : m < 5) (hh : h < 8) => sy_lt hsy (t := 110 + 8 * m + h) (sv_S hsy.1 hm hh)
  have gB := sy_lt hsy (t := 20 + b) (sv_B hsy.1 hb)
  have gG := sy_lt hsy (t := 40 + b) (sv_G hsy.1 hb)
  have hfB := htc.1.2.2.2.2.1 b hb
  refine jr_istore hX dL_act_46 rfl ?_
  refine jr_aload_n hX dL_act_48 rfl ?_
  refine jr_getr hX kF_L_62 rfl (sy_k0 hsy) (sy_p0_6 hsy) dL_act_49 ?_
  refine jr_iload hX dL_act_52 rfl ?_
  refine jr_aald (t := 17) hX (by decide) (sy_k6 hsy) rfl (by omega) (sy_qB hsy (by omega)) dL_act_54 ?_
  refine jr_astore hX dL_act_55 rfl ?_
  refine jr_iload_n hX dL_act_57 rfl ?_
  refine jr_bipush (v := 9) hX dL_act_58 (by decide) ?_
  refine jr_ishr hX dL_act_60 ?_
  refine jr_bipush (v := 10) hX dL_act_61 (by decide) ?_
  refine jr_ret (jr_runS hX hSt kM_L_18 (l_below (jj_fl hX) (m := 10) (show _ = nI 10 from rfl) (by decide)) rfl rfl dL_act_63 rfl ⟨by simp only [jj_N]; omega, by simp only [jj_N]; omega⟩ rfl) ?_
  rw [e9]
  refine jr_tabIn (tgt := 607) hX dL_act_66 (by decide) (by decide) rfl (by decide) ?_
  refine jr_aload hX dL_act_607 rfl ?_
  refine jr_geti hX kF_L_77 rfl (sy_kB hsy (by first | assumption | omega)) dL_act_609 ?_
  rw [q3]
  refine jr_iconst (v := 1) hX dL_act_612 (by decide) ?_
  refine jr_icmp_le (tgt := 618) hX dL_act_613 (by decide) (fun c_613 => ?_) (fun c_613 => ?_)
  · have hp := st_01 hfB.2.1 c_613
    have h3 : ¬ I (aB 0 b) 3 = 3 := by rcases hp with e | e <;> rw [e] <;> decide
    obtain ⟨hu, hhu, ehu⟩ := tc_hu htc hb h3
    obtain ⟨o, ho, e0⟩ := (htc.2.1.2.1 b hb).2
    obtain ⟨co, hco, eco⟩ := tc_co htc (show o < 5 by omega)
    have hpp := la_pts e0 (show o < 5 by omega) ehu hhu.2 eco hco
    obtain ⟨pp, hpq, epp⟩ : ∃ p, (3 * p ≤ co ∧ hu + p ≤ 20 ∧ (hu + p < 20 → co - 3 * p < 3)) ∧ p = (if co / 3 < 20 - hu then co / 3 else 20 - hu) := ⟨_, by (split <;> omega), rfl⟩
    rw [← epp] at hpp
    have nBC : A (20 + b) ≠ A 4 := fun e => by have := hsy.2.2.2 (20 + b) 4 (sv_B hsy.1 hb) sv_4 e; omega
    have h1 : ∀ k, k ≤ pp → jj_J X D 16 (0) (0) (jj_MQ X D { frames := 9, cells := 2, slots := 38, locals := 159 } (fun r n1 K1 I1 P1 G1 => G1 = G ∧ r = some (.int 1) ∧ ∃ A1 N1, A1 0 = A 0 ∧ lv A1 H M B N1 n1 (t + 2) K1 I1 P1) jj_noX) (n) (K) (jj_u (jj_u I (A (20 + b)) 1 (nI (hu + k))) (A 4) o (nI (co - 3 * k))) (P) (G) 618 [some (.ref 1), some (.ref (A 0)), some (.int x), some (.int (nI H)), some (.int (nI m)), some (.int (nI h)), some (.int (nI g)), some (.int (nI b)), some (.ref (A (20 + b))), none, none, none, none, none, none, none] [] := by
      refine jj_for (pp) _ ?_ (fun k hk ih => ?_)
      · refine jr_aload hX dL_act_618 rfl ?_
        refine jr_geti hX kF_L_126 rfl (sy_kB hsy (by first | assumption | omega)) dL_act_620 ?_
        rw [jj_u_ne (b := A (20 + b)) (a := A 4) nBC, jj_u_eq]
        refine jr_bipush (v := 20) hX dL_act_623 (by decide) ?_
        refine jr_icmp_ge (tgt := 670) hX dL_act_625 (by decide) (fun c_625 => ?_) (fun c_625 => ?_)
        · have eq : eqA (jj_u (jj_u I (A (20 + b)) 1 (nI (hu + pp))) (A 4) o (nI (co - 3 * pp))) I := eqA_w (eqA_w (fun _ _ => rfl) gB.1) g4.1
          have L1 := la_mend hv ht hb e0 ho hpp hp
          rw [ehu, eco, show (3 : Int32) = nI 3 from rfl, nI_ml, nI_sb (by omega), nI_add, show pp * 3 = 3 * pp by omega] at L1
          generalize jj_u (jj_u I (A (20 + b)) 1 (nI (hu + pp))) (A 4) o (nI (co - 3 * pp)) = J at L1 eq
          have eB := eq (aB 0 b) (by simp only [aB]; omega)
          refine jr_aload_n hX dL_act_670 rfl ?_
          refine jr_iload hX dL_act_671 rfl ?_
          refine jr_ret (jr_runV hX hSt kM_L_129 (c_mend_ok (jj_fl hX) hly (eqA_sf eq htc.1) hb (by rw [eB]; exact hp)) rfl rfl (ly_kI hly) ⟨_, _, rfl, by decide⟩ dL_act_673 rfl ⟨by simp only [jj_N]; omega, by simp only [jj_N]; omega⟩ rfl) ?_
          generalize f_mend b J = F at L1
          obtain ⟨r0, r1, r2, r3, r4, r5, r6, r7, r8⟩ := L1.2.2.1.2.2.2.2.2.2.1 b hb
          refine jr_aload hX dL_act_676 rfl ?_
          refine jr_geti hX kF_L_126 rfl (sy_kB hsy (by first | assumption | omega)) dL_act_678 ?_
          rw [r1]
          refine jr_icmp_ne (tgt := 688) hX dL_act_681 (by decide) (fun c_681 => absurd c_681 (show ¬ ¬ _ = _ from fun q => q rfl)) (fun c_681 => ?_)
          refine jr_iconst (v := 1) hX dL_act_684 (by decide) ?_
          refine jr_goto (tgt := 689) hX dL_act_685 (by decide) ?_
          exact jr_zret hX (Or.inr rfl) dL_act_689 (Nat.ble_eq.mpr (by first | (dsimp only; omega) | (simp only [jj_N]; omega))) (Nat.ble_eq.mpr (by first | (dsimp only; omega) | (simp only [jj_N]; omega))) ⟨rfl, rfl, A, N, rfl, L1⟩
        · refine jr_aload_n hX dL_act_628 rfl ?_
          refine jr_getr hX kF_L_49 rfl (sy_k0 hsy) (sy_p0_4 hsy) dL_act_629 ?_
          refine jr_aload hX dL_act_632 rfl ?_
          refine jr_geti hX kF_L_95 rfl (sy_kB hsy (by first | assumption | omega)) dL_act_634 ?_
          rw [jj_u_ne (b := A (20 + b)) (a := A 4) nBC, jj_u_nk (by decide), q0, e0]
          refine jr_iald hX (by first | with_reducible assumption | with_reducible exact sy_k0 hsy | with_reducible exact sy_k1 hsy | with_reducible exact sy_k2 hsy | with_reducible exact sy_k3 hsy | with_reducible exact sy_k4 hsy | with_reducible exact sy_k5 hsy | with_reducible exact sy_k6 hsy | with_reducible exact sy_k7 hsy | with_reducible exact sy_k8 hsy | with_reducible exact sy_kH hsy (by first | assumption | omega) | with_reducible exact sy_kB hsy (by first | assumption | omega) | with_reducible exact sy_kG hsy (by first | assumption | omega) | with_reducible exact sy_kD hsy (by first | assumption | omega) | with_reducible exact sy_kM hsy (by first | assumption | omega) | with_reducible exact sy_kS hsy (by first | assumption | omega) (by first | assumption | omega)) (by first | with_reducible rfl | with_reducible assumption | rfl) (by omega) dL_act_637 ?_
          rw [jj_u_eq]
          refine jr_iconst (v := 3) hX dL_act_638 (by decide) ?_
          refine jr_icmp_lt (tgt := 670) hX dL_act_639 (by decide) (fun c_639 => ?_) (fun c_639 => absurd (by rw [show (3 : Int32) = nI 3 from rfl]; exact (sn_il (by omega) (by omega)).mpr (hpq.2.2 (la_lt (b := 20) c_625 (by omega)))) c_639)
          have eq : eqA (jj_u (jj_u I (A (20 + b)) 1 (nI (hu + pp))) (A 4) o (nI (co - 3 * pp))) I := eqA_w (eqA_w (fun _ _ => rfl) gB.1) g4.1
          have L1 := la_mend hv ht hb e0 ho hpp hp
          rw [ehu, eco, show (3 : Int32) = nI 3 from rfl, nI_ml, nI_sb (by omega), nI_add, show pp * 3 = 3 * pp by omega] at L1
          generalize jj_u (jj_u I (A (20 + b)) 1 (nI (hu + pp))) (A 4) o (nI (co - 3 * pp)) = J at L1 eq
          have eB := eq (aB 0 b) (by simp only [aB]; omega)
          refine jr_aload_n hX dL_act_670 rfl ?_
          refine jr_iload hX dL_act_671 rfl ?_
          refine jr_ret (jr_runV hX hSt kM_L_129 (c_mend_ok (jj_fl hX) hly (eqA_sf eq htc.1) hb (by rw [eB]; exact hp)) rfl rfl (ly_kI hly) ⟨_, _, rfl, by decide⟩ dL_act_673 rfl ⟨by simp only [jj_N]; omega, by simp only [jj_N]; omega⟩ rfl) ?_
          generalize f_mend b J = F at L1
          obtain ⟨r0, r1, r2, r3, r4, r5, r6, r7, r8⟩ := L1.2.2.1.2.2.2.2.2.2.1 b hb
          refine jr_aload hX dL_act_676 rfl ?_
          refine jr_geti hX kF_L_126 rfl (sy_kB hsy (by first | assumption | omega)) dL_act_678 ?_
          rw [r1]
          refine jr_icmp_ne (tgt := 688) hX dL_act_681 (by decide) (fun c_681 => absurd c_681 (show ¬ ¬ _ = _ from fun q => q rfl)) (fun c_681 => ?_)
          refine jr_iconst (v := 1) hX dL_act_684 (by decide) ?_
          refine jr_goto (tgt := 689) hX dL_act_685 (by decide) ?_
          exact jr_zret hX (Or.inr rfl) dL_act_689 (Nat.ble_eq.mpr (by first | (dsimp only; omega) | (simp only [jj_N]; omega))) (Nat.ble_eq.mpr (by first | (dsimp only; omega) | (simp only [jj_N]; omega))) ⟨rfl, rfl, A, N, rfl, L1⟩
      · refine jr_aload hX dL_act_618 rfl ?_
        refine jr_geti hX kF_L_126 rfl (sy_kB hsy (by first | assumption | omega)) dL_act_620 ?_
        rw [jj_u_ne (b := A (20 + b)) (a := A 4) nBC, jj_u_eq]
        refine jr_bipush (v := 20) hX dL_act_623 (by decide) ?_
        refine jr_icmp_ge (tgt := 670) hX dL_act_625 (by decide) (fun c_625 => absurd c_625 (by rw [show (20 : Int32) = nI 20 from rfl]; exact nI_ge (by omega) (by omega))) (fun c_625 => ?_)
        refine jr_aload_n hX dL_act_628 rfl ?_
        refine jr_getr hX kF_L_49 rfl (sy_k0 hsy) (sy_p0_4 hsy) dL_act_629 ?_
        refine jr_aload hX dL_act_632 rfl ?_
        refine jr_geti hX kF_L_95 rfl (sy_kB hsy (by first | assumption | omega)) dL_act_634 ?_
        rw [jj_u_ne (b := A (20 + b)) (a := A 4) nBC, jj_u_nk (by decide), q0, e0]
        refine jr_iald hX (by first | with_reducible assumption | with_reducible exact sy_k0 hsy | with_reducible exact sy_k1 hsy | with_reducible exact sy_k2 hsy | with_reducible exact sy_k3 hsy | with_reducible exact sy_k4 hsy | with_reducible exact sy_k5 hsy | with_reducible exact sy_k6 hsy | with_reducible exact sy_k7 hsy | with_reducible exact sy_k8 hsy | with_reducible exact sy_kH hsy (by first | assumption | omega) | with_reducible exact sy_kB hsy (by first | assumption | omega) | with_reducible exact sy_kG hsy (by first | assumption | omega) | with_reducible exact sy_kD hsy (by first | assumption | omega) | with_reducible exact sy_kM hsy (by first | assumption | omega) | with_reducible exact sy_kS hsy (by first | assumption | omega) (by first | assumption | omega)) (by first | with_reducible rfl | with_reducible assumption | rfl) (by omega) dL_act_637 ?_
        rw [jj_u_eq]
        refine jr_iconst (v := 3) hX dL_act_638 (by decide) ?_
        refine jr_icmp_lt (tgt := 670) hX dL_act_639 (by decide) (fun c_639 => absurd c_639 (by rw [show (3 : Int32) = nI 3 from rfl]; exact fun q => absurd ((sn_il (by omega) (by omega)).mp q) (by omega))) (fun c_639 => ?_)
        refine jr_aload hX dL_act_642 rfl ?_
        refine jr_dup hX dL_act_644 rfl ?_
        refine jr_geti hX kF_L_126 rfl (sy_kB hsy (by first | assumption | omega)) dL_act_645 ?_
        rw [jj_u_ne (b := A (20 + b)) (a := A 4) nBC, jj_u_eq]
        refine jr_iconst (v := 1) hX dL_act_648 (by decide) ?_
        refine jr_iadd hX dL_act_649 ?_
        refine jr_puti hX kF_L_126 rfl (sy_kB hsy (by first | assumption | omega)) (sy_zB hsy (by first | assumption | omega)) dL_act_650 ?_
        refine jr_aload_n hX dL_act_653 rfl ?_
        refine jr_getr hX kF_L_49 rfl (sy_k0 hsy) (sy_p0_4 hsy) dL_act_654 ?_
        refine jr_aload hX dL_act_657 rfl ?_
        refine jr_geti hX kF_L_95 rfl (sy_kB hsy (by first | assumption | omega)) dL_act_659 ?_
        rw [jj_u_nk (by decide)]
        rw [jj_u_ne (b := A (20 + b)) (a := A 4) nBC, jj_u_nk (by decide), q0, e0]
        refine jr_dup2 hX dL_act_662 rfl rfl ?_
        refine jr_iald hX (by first | with_reducible assumption | with_reducible exact sy_k0 hsy | with_reducible exact sy_k1 hsy | with_reducible exact sy_k2 hsy | with_reducible exact sy_k3 hsy | with_reducible exact sy_k4 hsy | with_reducible exact sy_k5 hsy | with_reducible exact sy_k6 hsy | with_reducible exact sy_k7 hsy | with_reducible exact sy_k8 hsy | with_reducible exact sy_kH hsy (by first | assumption | omega) | with_reducible exact sy_kB hsy (by first | assumption | omega) | with_reducible exact sy_kG hsy (by first | assumption | omega) | with_reducible exact sy_kD hsy (by first | assumption | omega) | with_reducible exact sy_kM hsy (by first | assumption | omega) | with_reducible exact sy_kS hsy (by first | assumption | omega) (by first | assumption | omega)) (by first | with_reducible rfl | with_reducible assumption | rfl) (by omega) dL_act_663 ?_
        rw [jj_u_ne (b := A 4) (a := A (20 + b)) nBC.symm, jj_u_eq]
        refine jr_iconst (v := 3) hX dL_act_664 (by decide) ?_
        refine jr_isub hX dL_act_665 ?_
        refine jr_iast hX (by first | with_reducible assumption | with_reducible exact sy_k0 hsy | with_reducible exact sy_k1 hsy | with_reducible exact sy_k2 hsy | with_reducible exact sy_k3 hsy | with_reducible exact sy_k4 hsy | with_reducible exact sy_k5 hsy | with_reducible exact sy_k6 hsy | with_reducible exact sy_k7 hsy | with_reducible exact sy_k8 hsy | with_reducible exact sy_kH hsy (by first | assumption | omega) | with_reducible exact sy_kB hsy (by first | assumption | omega) | with_reducible exact sy_kG hsy (by first | assumption | omega) | with_reducible exact sy_kD hsy (by first | assumption | omega) | with_reducible exact sy_kM hsy (by first | assumption | omega) | with_reducible exact sy_kS hsy (by first | assumption | omega) (by first | assumption | omega)) (by first | assumption | with_reducible exact sy_z0 hsy | with_reducible exact sy_z1 hsy | with_reducible exact sy_z2 hsy | with_reducible exact sy_z3 hsy | with_reducible exact sy_z4 hsy | with_reducible exact sy_zH hsy (by first | assumption | omega) | with_reducible exact sy_zB hsy (by first | assumption | omega) | with_reducible exact sy_zG hsy (by first | assumption | omega) | with_reducible exact sy_zD hsy (by first | assumption | omega) | with_reducible exact sy_zS hsy (by first | assumption | omega) (by first | assumption | omega) | omega) (by first | with_reducible rfl | with_reducible assumption | rfl) (by omega) dL_act_666 ?_
        refine jr_goto (tgt := 618) hX dL_act_667 (by decide) ?_
        exact jr_I (by rw [jj_u_comm (a := A 4) (b := A (20 + b)) (Or.inl nBC.symm), jj_uu, jj_uu, show nI (hu + k) + 1 = nI (hu + (k + 1)) from jj_inc (hu + k), show nI (co - 3 * k) - 3 = nI (co - 3 * (k + 1)) by rw [show (3 : Int32) = nI 3 from rfl, nI_sb (by omega), show co - 3 * k - 3 = co - 3 * (k + 1) by omega]]) ih
    exact jr_I (by rw [jj_us (I := I) (by rw [q1, ehu]; rfl), jj_us (by rw [hms.2.2.2.2.1 o ho, eco]; rfl)]) (h1 0 (Nat.zero_le _))
  · refine jr_iconst (v := 1) hX dL_act_616 (by decide) ?_
    exact jr_zret hX (Or.inr rfl) dL_act_617 (Nat.ble_eq.mpr (by first | (dsimp only; omega) | (simp only [jj_N]; omega))) (Nat.ble_eq.mpr (by first | (dsimp only; omega) | (simp only [jj_N]; omega))) ⟨rfl, rfl, A, N, rfl, lv_st hv (by omega) ht⟩
