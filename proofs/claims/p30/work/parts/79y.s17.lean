/-! the law's day: a boat afloat -/
set_option maxHeartbeats 4000000 in
set_option maxRecDepth 100000 in
theorem lw_boat_0 {X : jj_X} {D : jj_D} {nm : String} {tb : List ExceptionTableEntry} {Q : State → Prop} (hX : jj_Cx X D cL_law RL 29 (some .boolean) nm { frames := 12, cells := 600074, slots := 7301550, locals := 458 } tb) (hSt : jj_St X D) {n cs sl : Nat} {K : jj_K} {I : jj_I} {P : jj_P} {G : jj_G} {A : Nat → Nat} {H M B N t t0 time q d who nA nO nC : Nat} {k : Nat} {x : Int32} {C : jj_I} (hv : lv A H M B N n t K I P) (hk : k < B) (hc3 : ¬ C (aB 0 k) 3 = 3) (e3 : I (aB 0 k) 3 = 0) (DY : dayB H k C I) (hcs : cs + 100 ≤ 600074) (hsl : sl + 200 ≤ 7301550) (kQ : K q = some (15, B)) (pQ : ∀ j, j < B → P q j = some (q + 1 + j)) (kR : ∀ j, j < B → K (q + 1 + j) = some (10, 12)) (wQ : ∀ j, j < B → ∀ w, w < 12 → I (q + 1 + j) w = q_bf j C w) (kk : jj_J X D 29 cs sl Q n K I P G 994 [some (.ref (0)), some (.ref (1)), some (.ref (A 0)), some (.int (nI H)), some (.int (nI B)), some (.int (nI M)), some (.int (nI time)), some (.int (x)), some (.ref (q)), some (.ref (nA)), some (.int (nI who)), some (.ref (nO)), some (.ref (nC)), some (.int (sm (g_go B N C) M)), some (.int (g_cs M C)), some (.int (nI N)), some (.int (sm (s_op C) N)), some (.int (nI d)), some (.int (C (aWm 0) (d % 40))), some (.int (sm (q_bi 0 1 C) B)), some (.int (sm (q_bi 0 3 (f_pd 0 H B N d C)) B - sm (q_bi 0 3 C) B)), some (.int (sm (g_lo C (f_pd 0 H B N d C)) k)), some (.int (sm (g_sk C (f_pd 0 H B N d C)) k)), some (.int (sm (q_bi 0 2 I) (k + 1))), some (.int (nI k)), none, none, none, none] []) :
    jj_J X D 29 (cs) (sl) Q (n) (K) (I) (P) G 650 [some (.ref (0)), some (.ref (1)), some (.ref (A 0)), some (.int (nI H)), some (.int (nI B)), some (.int (nI M)), some (.int (nI time)), some (.int (x)), some (.ref (q)), some (.ref (nA)), some (.int (nI who)), some (.ref (nO)), some (.ref (nC)), some (.int (sm (g_go B N C) M)), some (.int (g_cs M C)), some (.int (nI N)), some (.int (sm (s_op C) N)), some (.int (nI d)), some (.int (C (aWm 0) (d % 40))), some (.int (sm (q_bi 0 1 C) B)), some (.int (sm (q_bi 0 3 (f_pd 0 H B N d C)) B - sm (q_bi 0 3 C) B)), some (.int (sm (g_lo C (f_pd 0 H B N d C)) k)), some (.int (sm (g_sk C (f_pd 0 H B N d C)) k)), some (.int (sm (q_bi 0 2 I) k)), some (.int (nI k)), some (.int (I (aB 0 k) 3)), some (.int (I (aB 0 k) 4)), some (.int (I (aB 0 k) 7)), none] [] := by
  obtain ⟨hly, hsy, hms, htc, hdz, hH, hM, hB1, hB9, how⟩ := id hv
  have g0 := sy_lt hsy (t := 0) sv_0
  have n3 : ¬ I (aB 0 k) 3 = 3 := by rw [e3]; decide
  obtain ⟨p, hp, ep⟩ := (htc.1.2.2.2.2.1 k hk).2.2.1 n3
  obtain ⟨hu, hh, ehu, e6, hd⟩ := DY.2 hc3
  rcases hd with ⟨w, -⟩ | ⟨-, h1, hlw, hg, hc, hull⟩
  · exact absurd w n3
  have hg1 : ¬ C (aB 0 k) 1 < I (aB 0 k) 1 := by
    rcases hull with ⟨w, -⟩ | ⟨w0, w, -⟩
    · rw [w, ehu]; exact Int32.lt_irrefl
    · rw [w, ehu, sn_il (by omega) (by omega)]; omega
  have hg2 : ¬ I (aB 0 k) 1 < C (aB 0 k) 1 - 1 := by
    rcases hull with ⟨w, -⟩ | ⟨w0, w, -⟩
    · rw [w, ehu, jm_sub1 hh.1, sn_il (by omega) (by omega)]; omega
    · rw [w, ehu, jm_sub1 hh.1]; exact Int32.lt_irrefl
  have eia : f_ia 0 (nv (I (aB 0 k) 4)) H I = f_ia 0 p H I := by rw [ep, nv_nI (by omega)]
  have hA : f_ia 0 p H I ≤ 20 → I (aB 0 k) 1 = C (aB 0 k) 1 := fun q => by
    rcases hull with ⟨w, -⟩ | ⟨-, -, -, w⟩
    · rw [w, ehu]
    · exact absurd (by rw [eia]; exact q) (w e3)
  have hB : ¬ f_ia 0 p H I ≤ 20 → I (aB 0 k) 1 = C (aB 0 k) 1 - 1 := fun q => by
    rcases hull with ⟨-, w⟩ | ⟨-, w, -⟩
    · exact absurd (by rw [← eia]; exact w e3) q
    · rw [w, ehu, jm_sub1 hh.1]
  have l7 : I (aB 0 k) 7 = 0 := hlw.1 (by rw [e3]; decide)
  rw [e3, ep, l7]
  refine jr_iload hX dL_law_650 rfl ?_
  refine jr_iload hX dL_law_652 rfl ?_
  refine jr_iconst (v := 2) hX dL_law_654 (by decide) ?_
  refine jr_icmp_ne (tgt := 662) hX dL_law_655 (by decide) (fun c_655 => ?_) (fun c_655 => absurd c_655 (by decide))
  refine jr_iconst (v := 0) hX dL_law_662 (by decide) ?_
  refine jr_iadd hX dL_law_663 ?_
  refine jr_istore hX dL_law_664 rfl ?_
  refine jr_iload hX dL_law_666 rfl ?_
  refine jr_if_ne (tgt := 687) hX dL_law_668 (by decide) (fun c_668 => absurd c_668 (fun q => q rfl)) (fun c_668 => ?_)
  refine jr_aload_n hX dL_law_671 rfl ?_
  refine jr_iload hX dL_law_672 rfl ?_
  refine jr_iconst (v := 3) hX dL_law_674 (by decide) ?_
  refine jr_ret (jr_runV hX hSt kM_L_184 (c_harbour_ok (jj_fl hX) hly htc.1 (h := p) (t := 3) hp (by decide)) rfl rfl (ly_kI hly) ⟨_, _, rfl, by decide⟩ dL_law_675 rfl ⟨by simp only [jj_N]; omega, by simp only [jj_N]; omega⟩ rfl) ?_
  rw [show q_hf p H B I 3 = f_ia 0 p H I from rfl]
  refine jr_bipush (v := 20) hX dL_law_678 (by decide) ?_
  refine jr_icmp_le (tgt := 687) hX dL_law_680 (by decide) (fun c_680 => ?_) (fun c_680 => ?_)
  · refine jr_iconst (v := 0) hX dL_law_687 (by decide) ?_
    refine jr_istore hX dL_law_688 rfl ?_
    refine jr_iload hX dL_law_690 rfl ?_
    refine jr_iconst (v := 2) hX dL_law_692 (by decide) ?_
    refine jr_icmp_ge (tgt := 724) hX dL_law_693 (by decide) (fun c_693 => absurd c_693 (by decide)) (fun c_693 => ?_)
    refine jr_aload_n hX dL_law_696 rfl ?_
    refine jr_iload hX dL_law_697 rfl ?_
    refine jr_iconst (v := 1) hX dL_law_699 (by decide) ?_
    refine jr_ret (jr_runV hX hSt kM_L_158 (c_boat_ok (jj_fl hX) hly htc.1 (b := k) (t := 1) (by assumption) (by decide)) rfl rfl (ly_kI hly) ⟨_, _, rfl, by decide⟩ dL_law_700 rfl ⟨by simp only [jj_N]; omega, by simp only [jj_N]; omega⟩ rfl) ?_
    refine jr_aload hX dL_law_703 rfl ?_
    refine jr_iload hX dL_law_705 rfl ?_
    refine jr_aald (t := 15) hX (by decide) kQ rfl (by omega) (pQ k (by omega)) dL_law_707 ?_
    refine jr_iconst (v := 1) hX dL_law_708 (by decide) ?_
    refine jr_iald hX (kR k (by omega)) (show _ = nI 1 from rfl) (by omega) dL_law_709 ?_
    rw [wQ k (by omega) 1 (by decide)]
    refine jr_iload hX dL_law_710 rfl ?_
    refine jr_if_eq (tgt := 719) hX dL_law_712 (by decide) (fun c_712 => ?_) (fun c_712 => absurd rfl c_712)
    refine jr_iconst (v := 0) hX dL_law_719 (by decide) ?_
    refine jr_isub hX dL_law_720 ?_
    refine jr_icmp_ne (tgt := 796) hX dL_law_721 (by decide) (fun c_721 => absurd c_721 (show ¬ ¬ _ = _ from fun q => q (show I (aB 0 k) 1 = C (aB 0 k) 1 - 0 by rw [Int32.sub_zero]; exact hA c_680))) (fun c_721 => ?_)
    refine jr_aload_n hX dL_law_724 rfl ?_
    refine jr_iload hX dL_law_725 rfl ?_
    refine jr_iconst (v := 1) hX dL_law_727 (by decide) ?_
    refine jr_ret (jr_runV hX hSt kM_L_158 (c_boat_ok (jj_fl hX) hly htc.1 (b := k) (t := 1) (by assumption) (by decide)) rfl rfl (ly_kI hly) ⟨_, _, rfl, by decide⟩ dL_law_728 rfl ⟨by simp only [jj_N]; omega, by simp only [jj_N]; omega⟩ rfl) ?_
    refine jr_aload hX dL_law_731 rfl ?_
    refine jr_iload hX dL_law_733 rfl ?_
    refine jr_aald (t := 15) hX (by decide) kQ rfl (by omega) (pQ k (by omega)) dL_law_735 ?_
    refine jr_iconst (v := 1) hX dL_law_736 (by decide) ?_
    refine jr_iald hX (kR k (by omega)) (show _ = nI 1 from rfl) (by omega) dL_law_737 ?_
    rw [wQ k (by omega) 1 (by decide)]
    refine jr_icmp_gt (tgt := 796) hX dL_law_738 (by decide) (fun c_738 => absurd c_738 (show ¬ C (aB 0 k) 1 < I (aB 0 k) 1 from hg1)) (fun c_738 => ?_)
    refine jr_aload_n hX dL_law_741 rfl ?_
    refine jr_iload hX dL_law_742 rfl ?_
    refine jr_iconst (v := 1) hX dL_law_744 (by decide) ?_
    refine jr_ret (jr_runV hX hSt kM_L_158 (c_boat_ok (jj_fl hX) hly htc.1 (b := k) (t := 1) (by assumption) (by decide)) rfl rfl (ly_kI hly) ⟨_, _, rfl, by decide⟩ dL_law_745 rfl ⟨by simp only [jj_N]; omega, by simp only [jj_N]; omega⟩ rfl) ?_
    refine jr_aload hX dL_law_748 rfl ?_
    refine jr_iload hX dL_law_750 rfl ?_
    refine jr_aald (t := 15) hX (by decide) kQ rfl (by omega) (pQ k (by omega)) dL_law_752 ?_
    refine jr_iconst (v := 1) hX dL_law_753 (by decide) ?_
    refine jr_iald hX (kR k (by omega)) (show _ = nI 1 from rfl) (by omega) dL_law_754 ?_
    rw [wQ k (by omega) 1 (by decide)]
    refine jr_iconst (v := 1) hX dL_law_755 (by decide) ?_
    refine jr_isub hX dL_law_756 ?_
    refine jr_icmp_lt (tgt := 796) hX dL_law_757 (by decide) (fun c_757 => absurd c_757 (show ¬ I (aB 0 k) 1 < C (aB 0 k) 1 - 1 from hg2)) (fun c_757 => ?_)
    refine jr_aload_n hX dL_law_760 rfl ?_
    refine jr_iload hX dL_law_761 rfl ?_
    refine jr_bipush (v := 7) hX dL_law_763 (by decide) ?_
    refine jr_ret (jr_runV hX hSt kM_L_158 (c_boat_ok (jj_fl hX) hly htc.1 (b := k) (t := 7) (by assumption) (by decide)) rfl rfl (ly_kI hly) ⟨_, _, rfl, by decide⟩ dL_law_765 rfl ⟨by simp only [jj_N]; omega, by simp only [jj_N]; omega⟩ rfl) ?_
    refine jr_aload hX dL_law_768 rfl ?_
    refine jr_iload hX dL_law_770 rfl ?_
    refine jr_aald (t := 15) hX (by decide) kQ rfl (by omega) (pQ k (by omega)) dL_law_772 ?_
    refine jr_bipush (v := 7) hX dL_law_773 (by decide) ?_
    refine jr_iald hX (kR k (by omega)) (show _ = nI 7 from rfl) (by omega) dL_law_775 ?_
    rw [wQ k (by omega) 7 (by decide)]
    refine jr_icmp_ne (tgt := 796) hX dL_law_776 (by decide) (fun c_776 => absurd c_776 (show ¬ ¬ _ = _ from fun q => q (show sm (I (aBc 0 k)) 4 = sm (C (aBc 0 k)) 4 by rw [hc]))) (fun c_776 => ?_)
    refine jr_aload_n hX dL_law_779 rfl ?_
    refine jr_iload hX dL_law_780 rfl ?_
    refine jr_iconst (v := 5) hX dL_law_782 (by decide) ?_
    refine jr_ret (jr_runV hX hSt kM_L_158 (c_boat_ok (jj_fl hX) hly htc.1 (b := k) (t := 5) (by assumption) (by decide)) rfl rfl (ly_kI hly) ⟨_, _, rfl, by decide⟩ dL_law_783 rfl ⟨by simp only [jj_N]; omega, by simp only [jj_N]; omega⟩ rfl) ?_
    refine jr_aload hX dL_law_786 rfl ?_
    refine jr_iload hX dL_law_788 rfl ?_
    refine jr_aald (t := 15) hX (by decide) kQ rfl (by omega) (pQ k (by omega)) dL_law_790 ?_
    refine jr_iconst (v := 5) hX dL_law_791 (by decide) ?_
    refine jr_iald hX (kR k (by omega)) (show _ = nI 5 from rfl) (by omega) dL_law_792 ?_
    rw [wQ k (by omega) 5 (by decide)]
    refine jr_icmp_eq (tgt := 798) hX dL_law_793 (by decide) (fun c_793 => ?_) (fun c_793 => absurd (show I (aB 0 k) 6 = C (aB 0 k) 6 from e6) c_793)
    refine jr_iload hX dL_law_798 rfl ?_
    refine jr_if_lt (tgt := 833) hX dL_law_800 (by decide) (fun c_800 => absurd c_800 (by decide)) (fun c_800 => ?_)
    refine jr_iload hX dL_law_803 rfl ?_
    refine jr_iconst (v := 2) hX dL_law_805 (by decide) ?_
    refine jr_icmp_eq (tgt := 814) hX dL_law_806 (by decide) (fun c_806 => absurd c_806 (by decide)) (fun c_806 => ?_)
    refine jr_iload hX dL_law_809 rfl ?_
    refine jr_if_ne (tgt := 833) hX dL_law_811 (by decide) (fun c_811 => absurd c_811 (fun q => q rfl)) (fun c_811 => ?_)
    refine jr_iload hX dL_law_814 rfl ?_
    refine jr_iconst (v := 2) hX dL_law_816 (by decide) ?_
    refine jr_icmp_ne (tgt := 835) hX dL_law_817 (by decide) (fun c_817 => ?_) (fun c_817 => absurd c_817 (by decide))
    refine jr_aload hX dL_law_835 rfl ?_
    refine jr_iload hX dL_law_837 rfl ?_
    refine jr_aald (t := 15) hX (by decide) kQ rfl (by omega) (pQ k (by omega)) dL_law_839 ?_
    refine jr_iconst (v := 3) hX dL_law_840 (by decide) ?_
    refine jr_iald hX (kR k (by omega)) (show _ = nI 3 from rfl) (by omega) dL_law_841 ?_
    rw [wQ k (by omega) 3 (by decide)]
    refine jr_iconst (v := 2) hX dL_law_842 (by decide) ?_
    refine jr_icmp_ge (tgt := 863) hX dL_law_843 (by decide) (fun c_843 => ?_) (fun c_843 => ?_)
    · refine jr_aload hX dL_law_863 rfl ?_
      refine jr_iload hX dL_law_865 rfl ?_
      refine jr_aald (t := 15) hX (by decide) kQ rfl (by omega) (pQ k (by omega)) dL_law_867 ?_
      refine jr_iconst (v := 3) hX dL_law_868 (by decide) ?_
      refine jr_iald hX (kR k (by omega)) (show _ = nI 3 from rfl) (by omega) dL_law_869 ?_
      rw [wQ k (by omega) 3 (by decide)]
      refine jr_iconst (v := 2) hX dL_law_870 (by decide) ?_
      refine jr_icmp_ne (tgt := 916) hX dL_law_871 (by decide) (fun c_871 => ?_) (fun c_871 => ?_)
      · refine jr_aload hX dL_law_916 rfl ?_
        refine jr_iload hX dL_law_918 rfl ?_
        refine jr_aald (t := 15) hX (by decide) kQ rfl (by omega) (pQ k (by omega)) dL_law_920 ?_
        refine jr_iconst (v := 3) hX dL_law_921 (by decide) ?_
        refine jr_iald hX (kR k (by omega)) (show _ = nI 3 from rfl) (by omega) dL_law_922 ?_
        rw [wQ k (by omega) 3 (by decide)]
        refine jr_iconst (v := 2) hX dL_law_923 (by decide) ?_
        refine jr_icmp_ge (tgt := 975) hX dL_law_924 (by decide) (fun c_924 => ?_) (fun c_924 => ?_)
        · refine jr_iload hX dL_law_975 rfl ?_
          refine jr_iconst (v := 1) hX dL_law_977 (by decide) ?_
          refine jr_icmp_ne (tgt := 994) hX dL_law_978 (by decide) (fun c_978 => ?_) (fun c_978 => absurd c_978 (by decide))
          rw [sm_1 (show q_bi 0 2 I k = 0 from if_neg (by rw [e3]; decide))] at kk
          exact jr_forget (fun _ _ h => h) (fun i v h => by rcases i with _ | _ | _ | _ | _ | _ | _ | _ | _ | _ | _ | _ | _ | _ | _ | _ | _ | _ | _ | _ | _ | _ | _ | _ | _ | _ | _ | _ | _ | i <;> first | exact h | exact absurd h (by simp)) (kk)
        · refine jr_iload hX dL_law_927 rfl ?_
          refine jr_aload hX dL_law_929 rfl ?_
          refine jr_iload hX dL_law_931 rfl ?_
          refine jr_aald (t := 15) hX (by decide) kQ rfl (by omega) (pQ k (by omega)) dL_law_933 ?_
          refine jr_iconst (v := 4) hX dL_law_934 (by decide) ?_
          refine jr_iald hX (kR k (by omega)) (show _ = nI 4 from rfl) (by omega) dL_law_935 ?_
          rw [wQ k (by omega) 4 (by decide)]
          refine jr_icmp_eq (tgt := 975) hX dL_law_936 (by decide) (fun c_936 => ?_) (fun c_936 => ?_)
          · refine jr_iload hX dL_law_975 rfl ?_
            refine jr_iconst (v := 1) hX dL_law_977 (by decide) ?_
            refine jr_icmp_ne (tgt := 994) hX dL_law_978 (by decide) (fun c_978 => ?_) (fun c_978 => absurd c_978 (by decide))
            rw [sm_1 (show q_bi 0 2 I k = 0 from if_neg (by rw [e3]; decide))] at kk
            exact jr_forget (fun _ _ h => h) (fun i v h => by rcases i with _ | _ | _ | _ | _ | _ | _ | _ | _ | _ | _ | _ | _ | _ | _ | _ | _ | _ | _ | _ | _ | _ | _ | _ | _ | _ | _ | _ | _ | i <;> first | exact h | exact absurd h (by simp)) (kk)
          · refine jr_aload hX dL_law_939 rfl ?_
            refine jr_iload hX dL_law_941 rfl ?_
            refine jr_aald (t := 15) hX (by decide) kQ rfl (by omega) (pQ k (by omega)) dL_law_943 ?_
            refine jr_iconst (v := 5) hX dL_law_944 (by decide) ?_
            refine jr_iald hX (kR k (by omega)) (show _ = nI 5 from rfl) (by omega) dL_law_945 ?_
            rw [wQ k (by omega) 5 (by decide)]
            refine jr_iload hX dL_law_946 rfl ?_
            refine jr_isub hX dL_law_948 ?_
            refine jr_mabs (y := 0) hX kM_L_187 dL_law_949 rfl ⟨by first | (dsimp only; omega) | omega, by first | (dsimp only; omega) | omega⟩ ?_
            refine jr_aload hX dL_law_952 rfl ?_
            refine jr_iload hX dL_law_954 rfl ?_
            refine jr_aald (t := 15) hX (by decide) kQ rfl (by omega) (pQ k (by omega)) dL_law_956 ?_
            refine jr_iconst (v := 5) hX dL_law_957 (by decide) ?_
            refine jr_iald hX (kR k (by omega)) (show _ = nI 5 from rfl) (by omega) dL_law_958 ?_
            rw [wQ k (by omega) 5 (by decide)]
            refine jr_aload hX dL_law_959 rfl ?_
            refine jr_iload hX dL_law_961 rfl ?_
            refine jr_aald (t := 15) hX (by decide) kQ rfl (by omega) (pQ k (by omega)) dL_law_963 ?_
            refine jr_iconst (v := 4) hX dL_law_964 (by decide) ?_
            refine jr_iald hX (kR k (by omega)) (show _ = nI 4 from rfl) (by omega) dL_law_965 ?_
            rw [wQ k (by omega) 4 (by decide)]
            refine jr_isub hX dL_law_966 ?_
            refine jr_mabs (y := 0) hX kM_L_187 dL_law_967 rfl ⟨by first | (dsimp only; omega) | omega, by first | (dsimp only; omega) | omega⟩ ?_
            refine jr_icmp_lt (tgt := 975) hX dL_law_970 (by decide) (fun c_970 => ?_) (fun c_970 => absurd (show (if 0 ≤ C (aB 0 k) 6 - nI p then C (aB 0 k) 6 - nI p else 0 - (C (aB 0 k) 6 - nI p)) < (if 0 ≤ C (aB 0 k) 6 - C (aB 0 k) 4 then C (aB 0 k) 6 - C (aB 0 k) 4 else 0 - (C (aB 0 k) 6 - C (aB 0 k) 4)) from by rw [← ep]; exact (ck_ab hg (fun q => c_924 (show 2 ≤ C (aB 0 k) 3 by rw [q]; decide))).2 (fun q => c_936 (by rw [← ep]; exact q))) c_970)
            refine jr_iload hX dL_law_975 rfl ?_
            refine jr_iconst (v := 1) hX dL_law_977 (by decide) ?_
            refine jr_icmp_ne (tgt := 994) hX dL_law_978 (by decide) (fun c_978 => ?_) (fun c_978 => absurd c_978 (by decide))
            rw [sm_1 (show q_bi 0 2 I k = 0 from if_neg (by rw [e3]; decide))] at kk
            exact jr_forget (fun _ _ h => h) (fun i v h => by rcases i with _ | _ | _ | _ | _ | _ | _ | _ | _ | _ | _ | _ | _ | _ | _ | _ | _ | _ | _ | _ | _ | _ | _ | _ | _ | _ | _ | _ | _ | i <;> first | exact h | exact absurd h (by simp)) (kk)
      · refine jr_iload hX dL_law_874 rfl ?_
        refine jr_aload hX dL_law_876 rfl ?_
        refine jr_iload hX dL_law_878 rfl ?_
        refine jr_aald (t := 15) hX (by decide) kQ rfl (by omega) (pQ k (by omega)) dL_law_880 ?_
        refine jr_iconst (v := 4) hX dL_law_881 (by decide) ?_
        refine jr_iald hX (kR k (by omega)) (show _ = nI 4 from rfl) (by omega) dL_law_882 ?_
        rw [wQ k (by omega) 4 (by decide)]
        refine jr_icmp_ne (tgt := 914) hX dL_law_883 (by decide) (fun c_883 => absurd c_883 (show ¬ ¬ nI p = C (aB 0 k) 4 from fun q => q (by rw [← ep]; exact (hg.1 c_871).1))) (fun c_883 => ?_)
        refine jr_iload hX dL_law_886 rfl ?_
        refine jr_aload hX dL_law_888 rfl ?_
        refine jr_iload hX dL_law_890 rfl ?_
        refine jr_aald (t := 15) hX (by decide) kQ rfl (by omega) (pQ k (by omega)) dL_law_892 ?_
        refine jr_bipush (v := 6) hX dL_law_893 (by decide) ?_
        refine jr_iald hX (kR k (by omega)) (show _ = nI 6 from rfl) (by omega) dL_law_895 ?_
        rw [wQ k (by omega) 6 (by decide)]
        refine jr_icmp_eq (tgt := 916) hX dL_law_896 (by decide) (fun c_896 => ?_) (fun c_896 => ?_)
        · refine jr_aload hX dL_law_916 rfl ?_
          refine jr_iload hX dL_law_918 rfl ?_
          refine jr_aald (t := 15) hX (by decide) kQ rfl (by omega) (pQ k (by omega)) dL_law_920 ?_
          refine jr_iconst (v := 3) hX dL_law_921 (by decide) ?_
          refine jr_iald hX (kR k (by omega)) (show _ = nI 3 from rfl) (by omega) dL_law_922 ?_
          rw [wQ k (by omega) 3 (by decide)]
          refine jr_iconst (v := 2) hX dL_law_923 (by decide) ?_
          refine jr_icmp_ge (tgt := 975) hX dL_law_924 (by decide) (fun c_924 => ?_) (fun c_924 => ?_)
          · refine jr_iload hX dL_law_975 rfl ?_
            refine jr_iconst (v := 1) hX dL_law_977 (by decide) ?_
            refine jr_icmp_ne (tgt := 994) hX dL_law_978 (by decide) (fun c_978 => ?_) (fun c_978 => absurd c_978 (by decide))
            rw [sm_1 (show q_bi 0 2 I k = 0 from if_neg (by rw [e3]; decide))] at kk
            exact jr_forget (fun _ _ h => h) (fun i v h => by rcases i with _ | _ | _ | _ | _ | _ | _ | _ | _ | _ | _ | _ | _ | _ | _ | _ | _ | _ | _ | _ | _ | _ | _ | _ | _ | _ | _ | _ | _ | i <;> first | exact h | exact absurd h (by simp)) (kk)
          · refine jr_iload hX dL_law_927 rfl ?_
            refine jr_aload hX dL_law_929 rfl ?_
            refine jr_iload hX dL_law_931 rfl ?_
            refine jr_aald (t := 15) hX (by decide) kQ rfl (by omega) (pQ k (by omega)) dL_law_933 ?_
            refine jr_iconst (v := 4) hX dL_law_934 (by decide) ?_
            refine jr_iald hX (kR k (by omega)) (show _ = nI 4 from rfl) (by omega) dL_law_935 ?_
            rw [wQ k (by omega) 4 (by decide)]
            refine jr_icmp_eq (tgt := 975) hX dL_law_936 (by decide) (fun c_936 => ?_) (fun c_936 => ?_)
            · refine jr_iload hX dL_law_975 rfl ?_
              refine jr_iconst (v := 1) hX dL_law_977 (by decide) ?_
              refine jr_icmp_ne (tgt := 994) hX dL_law_978 (by decide) (fun c_978 => ?_) (fun c_978 => absurd c_978 (by decide))
              rw [sm_1 (show q_bi 0 2 I k = 0 from if_neg (by rw [e3]; decide))] at kk
              exact jr_forget (fun _ _ h => h) (fun i v h => by rcases i with _ | _ | _ | _ | _ | _ | _ | _ | _ | _ | _ | _ | _ | _ | _ | _ | _ | _ | _ | _ | _ | _ | _ | _ | _ | _ | _ | _ | _ | i <;> first | exact h | exact absurd h (by simp)) (kk)
            · refine jr_aload hX dL_law_939 rfl ?_
              refine jr_iload hX dL_law_941 rfl ?_
              refine jr_aald (t := 15) hX (by decide) kQ rfl (by omega) (pQ k (by omega)) dL_law_943 ?_
              refine jr_iconst (v := 5) hX dL_law_944 (by decide) ?_
              refine jr_iald hX (kR k (by omega)) (show _ = nI 5 from rfl) (by omega) dL_law_945 ?_
              rw [wQ k (by omega) 5 (by decide)]
              refine jr_iload hX dL_law_946 rfl ?_
              refine jr_isub hX dL_law_948 ?_
              refine jr_mabs (y := 0) hX kM_L_187 dL_law_949 rfl ⟨by first | (dsimp only; omega) | omega, by first | (dsimp only; omega) | omega⟩ ?_
              refine jr_aload hX dL_law_952 rfl ?_
              refine jr_iload hX dL_law_954 rfl ?_
              refine jr_aald (t := 15) hX (by decide) kQ rfl (by omega) (pQ k (by omega)) dL_law_956 ?_
              refine jr_iconst (v := 5) hX dL_law_957 (by decide) ?_
              refine jr_iald hX (kR k (by omega)) (show _ = nI 5 from rfl) (by omega) dL_law_958 ?_
              rw [wQ k (by omega) 5 (by decide)]
              refine jr_aload hX dL_law_959 rfl ?_
              refine jr_iload hX dL_law_961 rfl ?_
              refine jr_aald (t := 15) hX (by decide) kQ rfl (by omega) (pQ k (by omega)) dL_law_963 ?_
              refine jr_iconst (v := 4) hX dL_law_964 (by decide) ?_
              refine jr_iald hX (kR k (by omega)) (show _ = nI 4 from rfl) (by omega) dL_law_965 ?_
              rw [wQ k (by omega) 4 (by decide)]
              refine jr_isub hX dL_law_966 ?_
              refine jr_mabs (y := 0) hX kM_L_187 dL_law_967 rfl ⟨by first | (dsimp only; omega) | omega, by first | (dsimp only; omega) | omega⟩ ?_
              refine jr_icmp_lt (tgt := 975) hX dL_law_970 (by decide) (fun c_970 => ?_) (fun c_970 => absurd (show (if 0 ≤ C (aB 0 k) 6 - nI p then C (aB 0 k) 6 - nI p else 0 - (C (aB 0 k) 6 - nI p)) < (if 0 ≤ C (aB 0 k) 6 - C (aB 0 k) 4 then C (aB 0 k) 6 - C (aB 0 k) 4 else 0 - (C (aB 0 k) 6 - C (aB 0 k) 4)) from by rw [← ep]; exact (ck_ab hg (fun q => c_924 (show 2 ≤ C (aB 0 k) 3 by rw [q]; decide))).2 (fun q => c_936 (by rw [← ep]; exact q))) c_970)
              refine jr_iload hX dL_law_975 rfl ?_
              refine jr_iconst (v := 1) hX dL_law_977 (by decide) ?_
              refine jr_icmp_ne (tgt := 994) hX dL_law_978 (by decide) (fun c_978 => ?_) (fun c_978 => absurd c_978 (by decide))
              rw [sm_1 (show q_bi 0 2 I k = 0 from if_neg (by rw [e3]; decide))] at kk
              exact jr_forget (fun _ _ h => h) (fun i v h => by rcases i with _ | _ | _ | _ | _ | _ | _ | _ | _ | _ | _ | _ | _ | _ | _ | _ | _ | _ | _ | _ | _ | _ | _ | _ | _ | _ | _ | _ | _ | i <;> first | exact h | exact absurd h (by simp)) (kk)
        · refine jr_iload hX dL_law_899 rfl ?_
          refine jr_aload hX dL_law_901 rfl ?_
          refine jr_iload hX dL_law_903 rfl ?_
          refine jr_aald (t := 15) hX (by decide) kQ rfl (by omega) (pQ k (by omega)) dL_law_905 ?_
          refine jr_bipush (v := 6) hX dL_law_906 (by decide) ?_
          refine jr_iald hX (kR k (by omega)) (show _ = nI 6 from rfl) (by omega) dL_law_908 ?_
          rw [wQ k (by omega) 6 (by decide)]
          refine jr_iconst (v := 1) hX dL_law_909 (by decide) ?_
          refine jr_isub hX dL_law_910 ?_
          refine jr_icmp_eq (tgt := 916) hX dL_law_911 (by decide) (fun c_911 => ?_) (fun c_911 => absurd (show 0 = C (aB 0 k) 7 - 1 from by rw [← l7]; exact ((hg.1 c_871).2).resolve_left (fun q => c_896 (by rw [← l7]; exact q))) c_911)
          refine jr_aload hX dL_law_916 rfl ?_
          refine jr_iload hX dL_law_918 rfl ?_
          refine jr_aald (t := 15) hX (by decide) kQ rfl (by omega) (pQ k (by omega)) dL_law_920 ?_
          refine jr_iconst (v := 3) hX dL_law_921 (by decide) ?_
          refine jr_iald hX (kR k (by omega)) (show _ = nI 3 from rfl) (by omega) dL_law_922 ?_
          rw [wQ k (by omega) 3 (by decide)]
          refine jr_iconst (v := 2) hX dL_law_923 (by decide) ?_
          refine jr_icmp_ge (tgt := 975) hX dL_law_924 (by decide) (fun c_924 => ?_) (fun c_924 => ?_)
          · refine jr_iload hX dL_law_975 rfl ?_
            refine jr_iconst (v := 1) hX dL_law_977 (by decide) ?_
            refine jr_icmp_ne (tgt := 994) hX dL_law_978 (by decide) (fun c_978 => ?_) (fun c_978 => absurd c_978 (by decide))
            rw [sm_1 (show q_bi 0 2 I k = 0 from if_neg (by rw [e3]; decide))] at kk
            exact jr_forget (fun _ _ h => h) (fun i v h => by rcases i with _ | _ | _ | _ | _ | _ | _ | _ | _ | _ | _ | _ | _ | _ | _ | _ | _ | _ | _ | _ | _ | _ | _ | _ | _ | _ | _ | _ | _ | i <;> first | exact h | exact absurd h (by simp)) (kk)
          · refine jr_iload hX dL_law_927 rfl ?_
            refine jr_aload hX dL_law_929 rfl ?_
            refine jr_iload hX dL_law_931 rfl ?_
            refine jr_aald (t := 15) hX (by decide) kQ rfl (by omega) (pQ k (by omega)) dL_law_933 ?_
            refine jr_iconst (v := 4) hX dL_law_934 (by decide) ?_
            refine jr_iald hX (kR k (by omega)) (show _ = nI 4 from rfl) (by omega) dL_law_935 ?_
            rw [wQ k (by omega) 4 (by decide)]
            refine jr_icmp_eq (tgt := 975) hX dL_law_936 (by decide) (fun c_936 => ?_) (fun c_936 => ?_)
            · refine jr_iload hX dL_law_975 rfl ?_
              refine jr_iconst (v := 1) hX dL_law_977 (by decide) ?_
              refine jr_icmp_ne (tgt := 994) hX dL_law_978 (by decide) (fun c_978 => ?_) (fun c_978 => absurd c_978 (by decide))
              rw [sm_1 (show q_bi 0 2 I k = 0 from if_neg (by rw [e3]; decide))] at kk
              exact jr_forget (fun _ _ h => h) (fun i v h => by rcases i with _ | _ | _ | _ | _ | _ | _ | _ | _ | _ | _ | _ | _ | _ | _ | _ | _ | _ | _ | _ | _ | _ | _ | _ | _ | _ | _ | _ | _ | i <;> first | exact h | exact absurd h (by simp)) (kk)
            · refine jr_aload hX dL_law_939 rfl ?_
              refine jr_iload hX dL_law_941 rfl ?_
              refine jr_aald (t := 15) hX (by decide) kQ rfl (by omega) (pQ k (by omega)) dL_law_943 ?_
              refine jr_iconst (v := 5) hX dL_law_944 (by decide) ?_
              refine jr_iald hX (kR k (by omega)) (show _ = nI 5 from rfl) (by omega) dL_law_945 ?_
              rw [wQ k (by omega) 5 (by decide)]
              refine jr_iload hX dL_law_946 rfl ?_
              refine jr_isub hX dL_law_948 ?_
              refine jr_mabs (y := 0) hX kM_L_187 dL_law_949 rfl ⟨by first | (dsimp only; omega) | omega, by first | (dsimp only; omega) | omega⟩ ?_
              refine jr_aload hX dL_law_952 rfl ?_
              refine jr_iload hX dL_law_954 rfl ?_
              refine jr_aald (t := 15) hX (by decide) kQ rfl (by omega) (pQ k (by omega)) dL_law_956 ?_
              refine jr_iconst (v := 5) hX dL_law_957 (by decide) ?_
              refine jr_iald hX (kR k (by omega)) (show _ = nI 5 from rfl) (by omega) dL_law_958 ?_
              rw [wQ k (by omega) 5 (by decide)]
              refine jr_aload hX dL_law_959 rfl ?_
              refine jr_iload hX dL_law_961 rfl ?_
              refine jr_aald (t := 15) hX (by decide) kQ rfl (by omega) (pQ k (by omega)) dL_law_963 ?_
              refine jr_iconst (v := 4) hX dL_law_964 (by decide) ?_
              refine jr_iald hX (kR k (by omega)) (show _ = nI 4 from rfl) (by omega) dL_law_965 ?_
              rw [wQ k (by omega) 4 (by decide)]
              refine jr_isub hX dL_law_966 ?_
              refine jr_mabs (y := 0) hX kM_L_187 dL_law_967 rfl ⟨by first | (dsimp only; omega) | omega, by first | (dsimp only; omega) | omega⟩ ?_
              refine jr_icmp_lt (tgt := 975) hX dL_law_970 (by decide) (fun c_970 => ?_) (fun c_970 => absurd (show (if 0 ≤ C (aB 0 k) 6 - nI p then C (aB 0 k) 6 - nI p else 0 - (C (aB 0 k) 6 - nI p)) < (if 0 ≤ C (aB 0 k) 6 - C (aB 0 k) 4 then C (aB 0 k) 6 - C (aB 0 k) 4 else 0 - (C (aB 0 k) 6 - C (aB 0 k) 4)) from by rw [← ep]; exact (ck_ab hg (fun q => c_924 (show 2 ≤ C (aB 0 k) 3 by rw [q]; decide))).2 (fun q => c_936 (by rw [← ep]; exact q))) c_970)
              refine jr_iload hX dL_law_975 rfl ?_
              refine jr_iconst (v := 1) hX dL_law_977 (by decide) ?_
              refine jr_icmp_ne (tgt := 994) hX dL_law_978 (by decide) (fun c_978 => ?_) (fun c_978 => absurd c_978 (by decide))
              rw [sm_1 (show q_bi 0 2 I k = 0 from if_neg (by rw [e3]; decide))] at kk
              exact jr_forget (fun _ _ h => h) (fun i v h => by rcases i with _ | _ | _ | _ | _ | _ | _ | _ | _ | _ | _ | _ | _ | _ | _ | _ | _ | _ | _ | _ | _ | _ | _ | _ | _ | _ | _ | _ | _ | i <;> first | exact h | exact absurd h (by simp)) (kk)
    · refine jr_iload hX dL_law_846 rfl ?_
      refine jr_aload hX dL_law_848 rfl ?_
      refine jr_iload hX dL_law_850 rfl ?_
      refine jr_aald (t := 15) hX (by decide) kQ rfl (by omega) (pQ k (by omega)) dL_law_852 ?_
      refine jr_iconst (v := 4) hX dL_law_853 (by decide) ?_
      refine jr_iald hX (kR k (by omega)) (show _ = nI 4 from rfl) (by omega) dL_law_854 ?_
      rw [wQ k (by omega) 4 (by decide)]
      refine jr_isub hX dL_law_855 ?_
      refine jr_mabs (y := 0) hX kM_L_187 dL_law_856 rfl ⟨by first | (dsimp only; omega) | omega, by first | (dsimp only; omega) | omega⟩ ?_
      refine jr_iconst (v := 1) hX dL_law_859 (by decide) ?_
      refine jr_icmp_gt (tgt := 914) hX dL_law_860 (by decide) (fun c_860 => absurd c_860 (show ¬ 1 < (if 0 ≤ nI p - C (aB 0 k) 4 then nI p - C (aB 0 k) 4 else 0 - (nI p - C (aB 0 k) 4)) from by rw [← ep]; exact (ck_ab hg (fun q => c_843 (show 2 ≤ C (aB 0 k) 3 by rw [q]; decide))).1)) (fun c_860 => ?_)
      refine jr_aload hX dL_law_863 rfl ?_
      refine jr_iload hX dL_law_865 rfl ?_
      refine jr_aald (t := 15) hX (by decide) kQ rfl (by omega) (pQ k (by omega)) dL_law_867 ?_
      refine jr_iconst (v := 3) hX dL_law_868 (by decide) ?_
      refine jr_iald hX (kR k (by omega)) (show _ = nI 3 from rfl) (by omega) dL_law_869 ?_
      rw [wQ k (by omega) 3 (by decide)]
      refine jr_iconst (v := 2) hX dL_law_870 (by decide) ?_
      refine jr_icmp_ne (tgt := 916) hX dL_law_871 (by decide) (fun c_871 => ?_) (fun c_871 => ?_)
      · refine jr_aload hX dL_law_916 rfl ?_
        refine jr_iload hX dL_law_918 rfl ?_
        refine jr_aald (t := 15) hX (by decide) kQ rfl (by omega) (pQ k (by omega)) dL_law_920 ?_
        refine jr_iconst (v := 3) hX dL_law_921 (by decide) ?_
        refine jr_iald hX (kR k (by omega)) (show _ = nI 3 from rfl) (by omega) dL_law_922 ?_
        rw [wQ k (by omega) 3 (by decide)]
        refine jr_iconst (v := 2) hX dL_law_923 (by decide) ?_
        refine jr_icmp_ge (tgt := 975) hX dL_law_924 (by decide) (fun c_924 => ?_) (fun c_924 => ?_)
        · refine jr_iload hX dL_law_975 rfl ?_
          refine jr_iconst (v := 1) hX dL_law_977 (by decide) ?_
          refine jr_icmp_ne (tgt := 994) hX dL_law_978 (by decide) (fun c_978 => ?_) (fun c_978 => absurd c_978 (by decide))
          rw [sm_1 (show q_bi 0 2 I k = 0 from if_neg (by rw [e3]; decide))] at kk
          exact jr_forget (fun _ _ h => h) (fun i v h => by rcases i with _ | _ | _ | _ | _ | _ | _ | _ | _ | _ | _ | _ | _ | _ | _ | _ | _ | _ | _ | _ | _ | _ | _ | _ | _ | _ | _ | _ | _ | i <;> first | exact h | exact absurd h (by simp)) (kk)
        · refine jr_iload hX dL_law_927 rfl ?_
          refine jr_aload hX dL_law_929 rfl ?_
          refine jr_iload hX dL_law_931 rfl ?_
          refine jr_aald (t := 15) hX (by decide) kQ rfl (by omega) (pQ k (by omega)) dL_law_933 ?_
          refine jr_iconst (v := 4) hX dL_law_934 (by decide) ?_
          refine jr_iald hX (kR k (by omega)) (show _ = nI 4 from rfl) (by omega) dL_law_935 ?_
          rw [wQ k (by omega) 4 (by decide)]
          refine jr_icmp_eq (tgt := 975) hX dL_law_936 (by decide) (fun c_936 => ?_) (fun c_936 => ?_)
          · refine jr_iload hX dL_law_975 rfl ?_
            refine jr_iconst (v := 1) hX dL_law_977 (by decide) ?_
            refine jr_icmp_ne (tgt := 994) hX dL_law_978 (by decide) (fun c_978 => ?_) (fun c_978 => absurd c_978 (by decide))
            rw [sm_1 (show q_bi 0 2 I k = 0 from if_neg (by rw [e3]; decide))] at kk
            exact jr_forget (fun _ _ h => h) (fun i v h => by rcases i with _ | _ | _ | _ | _ | _ | _ | _ | _ | _ | _ | _ | _ | _ | _ | _ | _ | _ | _ | _ | _ | _ | _ | _ | _ | _ | _ | _ | _ | i <;> first | exact h | exact absurd h (by simp)) (kk)
          · refine jr_aload hX dL_law_939 rfl ?_
            refine jr_iload hX dL_law_941 rfl ?_
            refine jr_aald (t := 15) hX (by decide) kQ rfl (by omega) (pQ k (by omega)) dL_law_943 ?_
            refine jr_iconst (v := 5) hX dL_law_944 (by decide) ?_
            refine jr_iald hX (kR k (by omega)) (show _ = nI 5 from rfl) (by omega) dL_law_945 ?_
            rw [wQ k (by omega) 5 (by decide)]
            refine jr_iload hX dL_law_946 rfl ?_
            refine jr_isub hX dL_law_948 ?_
            refine jr_mabs (y := 0) hX kM_L_187 dL_law_949 rfl ⟨by first | (dsimp only; omega) | omega, by first | (dsimp only; omega) | omega⟩ ?_
            refine jr_aload hX dL_law_952 rfl ?_
            refine jr_iload hX dL_law_954 rfl ?_
            refine jr_aald (t := 15) hX (by decide) kQ rfl (by omega) (pQ k (by omega)) dL_law_956 ?_
            refine jr_iconst (v := 5) hX dL_law_957 (by decide) ?_
            refine jr_iald hX (kR k (by omega)) (show _ = nI 5 from rfl) (by omega) dL_law_958 ?_
            rw [wQ k (by omega) 5 (by decide)]
            refine jr_aload hX dL_law_959 rfl ?_
            refine jr_iload hX dL_law_961 rfl ?_
            refine jr_aald (t := 15) hX (by decide) kQ rfl (by omega) (pQ k (by omega)) dL_law_963 ?_
            refine jr_iconst (v := 4) hX dL_law_964 (by decide) ?_
            refine jr_iald hX (kR k (by omega)) (show _ = nI 4 from rfl) (by omega) dL_law_965 ?_
            rw [wQ k (by omega) 4 (by decide)]
            refine jr_isub hX dL_law_966 ?_
            refine jr_mabs (y := 0) hX kM_L_187 dL_law_967 rfl ⟨by first | (dsimp only; omega) | omega, by first | (dsimp only; omega) | omega⟩ ?_
            refine jr_icmp_lt (tgt := 975) hX dL_law_970 (by decide) (fun c_970 => ?_) (fun c_970 => absurd (show (if 0 ≤ C (aB 0 k) 6 - nI p then C (aB 0 k) 6 - nI p else 0 - (C (aB 0 k) 6 - nI p)) < (if 0 ≤ C (aB 0 k) 6 - C (aB 0 k) 4 then C (aB 0 k) 6 - C (aB 0 k) 4 else 0 - (C (aB 0 k) 6 - C (aB 0 k) 4)) from by rw [← ep]; exact (ck_ab hg (fun q => c_924 (show 2 ≤ C (aB 0 k) 3 by rw [q]; decide))).2 (fun q => c_936 (by rw [← ep]; exact q))) c_970)
            refine jr_iload hX dL_law_975 rfl ?_
            refine jr_iconst (v := 1) hX dL_law_977 (by decide) ?_
            refine jr_icmp_ne (tgt := 994) hX dL_law_978 (by decide) (fun c_978 => ?_) (fun c_978 => absurd c_978 (by decide))
            rw [sm_1 (show q_bi 0 2 I k = 0 from if_neg (by rw [e3]; decide))] at kk
            exact jr_forget (fun _ _ h => h) (fun i v h => by rcases i with _ | _ | _ | _ | _ | _ | _ | _ | _ | _ | _ | _ | _ | _ | _ | _ | _ | _ | _ | _ | _ | _ | _ | _ | _ | _ | _ | _ | _ | i <;> first | exact h | exact absurd h (by simp)) (kk)
      · refine jr_iload hX dL_law_874 rfl ?_
        refine jr_aload hX dL_law_876 rfl ?_
        refine jr_iload hX dL_law_878 rfl ?_
        refine jr_aald (t := 15) hX (by decide) kQ rfl (by omega) (pQ k (by omega)) dL_law_880 ?_
        refine jr_iconst (v := 4) hX dL_law_881 (by decide) ?_
        refine jr_iald hX (kR k (by omega)) (show _ = nI 4 from rfl) (by omega) dL_law_882 ?_
        rw [wQ k (by omega) 4 (by decide)]
        refine jr_icmp_ne (tgt := 914) hX dL_law_883 (by decide) (fun c_883 => absurd c_883 (show ¬ ¬ nI p = C (aB 0 k) 4 from fun q => q (by rw [← ep]; exact (hg.1 c_871).1))) (fun c_883 => ?_)
        refine jr_iload hX dL_law_886 rfl ?_
        refine jr_aload hX dL_law_888 rfl ?_
        refine jr_iload hX dL_law_890 rfl ?_
        refine jr_aald (t := 15) hX (by decide) kQ rfl (by omega) (pQ k (by omega)) dL_law_892 ?_
        refine jr_bipush (v := 6) hX dL_law_893 (by decide) ?_
        refine jr_iald hX (kR k (by omega)) (show _ = nI 6 from rfl) (by omega) dL_law_895 ?_
        rw [wQ k (by omega) 6 (by decide)]
        refine jr_icmp_eq (tgt := 916) hX dL_law_896 (by decide) (fun c_896 => ?_) (fun c_896 => ?_)
        · refine jr_aload hX dL_law_916 rfl ?_
          refine jr_iload hX dL_law_918 rfl ?_
          refine jr_aald (t := 15) hX (by decide) kQ rfl (by omega) (pQ k (by omega)) dL_law_920 ?_
          refine jr_iconst (v := 3) hX dL_law_921 (by decide) ?_
          refine jr_iald hX (kR k (by omega)) (show _ = nI 3 from rfl) (by omega) dL_law_922 ?_
          rw [wQ k (by omega) 3 (by decide)]
          refine jr_iconst (v := 2) hX dL_law_923 (by decide) ?_
          refine jr_icmp_ge (tgt := 975) hX dL_law_924 (by decide) (fun c_924 => ?_) (fun c_924 => ?_)
          · refine jr_iload hX dL_law_975 rfl ?_
            refine jr_iconst (v := 1) hX dL_law_977 (by decide) ?_
            refine jr_icmp_ne (tgt := 994) hX dL_law_978 (by decide) (fun c_978 => ?_) (fun c_978 => absurd c_978 (by decide))
            rw [sm_1 (show q_bi 0 2 I k = 0 from if_neg (by rw [e3]; decide))] at kk
            exact jr_forget (fun _ _ h => h) (fun i v h => by rcases i with _ | _ | _ | _ | _ | _ | _ | _ | _ | _ | _ | _ | _ | _ | _ | _ | _ | _ | _ | _ | _ | _ | _ | _ | _ | _ | _ | _ | _ | i <;> first | exact h | exact absurd h (by simp)) (kk)
          · refine jr_iload hX dL_law_927 rfl ?_
            refine jr_aload hX dL_law_929 rfl ?_
            refine jr_iload hX dL_law_931 rfl ?_
            refine jr_aald (t := 15) hX (by decide) kQ rfl (by omega) (pQ k (by omega)) dL_law_933 ?_
            refine jr_iconst (v := 4) hX dL_law_934 (by decide) ?_
            refine jr_iald hX (kR k (by omega)) (show _ = nI 4 from rfl) (by omega) dL_law_935 ?_
            rw [wQ k (by omega) 4 (by decide)]
            refine jr_icmp_eq (tgt := 975) hX dL_law_936 (by decide) (fun c_936 => ?_) (fun c_936 => ?_)
            · refine jr_iload hX dL_law_975 rfl ?_
              refine jr_iconst (v := 1) hX dL_law_977 (by decide) ?_
              refine jr_icmp_ne (tgt := 994) hX dL_law_978 (by decide) (fun c_978 => ?_) (fun c_978 => absurd c_978 (by decide))
              rw [sm_1 (show q_bi 0 2 I k = 0 from if_neg (by rw [e3]; decide))] at kk
              exact jr_forget (fun _ _ h => h) (fun i v h => by rcases i with _ | _ | _ | _ | _ | _ | _ | _ | _ | _ | _ | _ | _ | _ | _ | _ | _ | _ | _ | _ | _ | _ | _ | _ | _ | _ | _ | _ | _ | i <;> first | exact h | exact absurd h (by simp)) (kk)
            · refine jr_aload hX dL_law_939 rfl ?_
              refine jr_iload hX dL_law_941 rfl ?_
              refine jr_aald (t := 15) hX (by decide) kQ rfl (by omega) (pQ k (by omega)) dL_law_943 ?_
              refine jr_iconst (v := 5) hX dL_law_944 (by decide) ?_
              refine jr_iald hX (kR k (by omega)) (show _ = nI 5 from rfl) (by omega) dL_law_945 ?_
              rw [wQ k (by omega) 5 (by decide)]
              refine jr_iload hX dL_law_946 rfl ?_
              refine jr_isub hX dL_law_948 ?_
              refine jr_mabs (y := 0) hX kM_L_187 dL_law_949 rfl ⟨by first | (dsimp only; omega) | omega, by first | (dsimp only; omega) | omega⟩ ?_
              refine jr_aload hX dL_law_952 rfl ?_
              refine jr_iload hX dL_law_954 rfl ?_
              refine jr_aald (t := 15) hX (by decide) kQ rfl (by omega) (pQ k (by omega)) dL_law_956 ?_
              refine jr_iconst (v := 5) hX dL_law_957 (by decide) ?_
              refine jr_iald hX (kR k (by omega)) (show _ = nI 5 from rfl) (by omega) dL_law_958 ?_
              rw [wQ k (by omega) 5 (by decide)]
              refine jr_aload hX dL_law_959 rfl ?_
              refine jr_iload hX dL_law_961 rfl ?_
              refine jr_aald (t := 15) hX (by decide) kQ rfl (by omega) (pQ k (by omega)) dL_law_963 ?_
              refine jr_iconst (v := 4) hX dL_law_964 (by decide) ?_
              refine jr_iald hX (kR k (by omega)) (show _ = nI 4 from rfl) (by omega) dL_law_965 ?_
              rw [wQ k (by omega) 4 (by decide)]
              refine jr_isub hX dL_law_966 ?_
              refine jr_mabs (y := 0) hX kM_L_187 dL_law_967 rfl ⟨by first | (dsimp only; omega) | omega, by first | (dsimp only; omega) | omega⟩ ?_
              refine jr_icmp_lt (tgt := 975) hX dL_law_970 (by decide) (fun c_970 => ?_) (fun c_970 => absurd (show (if 0 ≤ C (aB 0 k) 6 - nI p then C (aB 0 k) 6 - nI p else 0 - (C (aB 0 k) 6 - nI p)) < (if 0 ≤ C (aB 0 k) 6 - C (aB 0 k) 4 then C (aB 0 k) 6 - C (aB 0 k) 4 else 0 - (C (aB 0 k) 6 - C (aB 0 k) 4)) from by rw [← ep]; exact (ck_ab hg (fun q => c_924 (show 2 ≤ C (aB 0 k) 3 by rw [q]; decide))).2 (fun q => c_936 (by rw [← ep]; exact q))) c_970)
              refine jr_iload hX dL_law_975 rfl ?_
              refine jr_iconst (v := 1) hX dL_law_977 (by decide) ?_
              refine jr_icmp_ne (tgt := 994) hX dL_law_978 (by decide) (fun c_978 => ?_) (fun c_978 => absurd c_978 (by decide))
              rw [sm_1 (show q_bi 0 2 I k = 0 from if_neg (by rw [e3]; decide))] at kk
              exact jr_forget (fun _ _ h => h) (fun i v h => by rcases i with _ | _ | _ | _ | _ | _ | _ | _ | _ | _ | _ | _ | _ | _ | _ | _ | _ | _ | _ | _ | _ | _ | _ | _ | _ | _ | _ | _ | _ | i <;> first | exact h | exact absurd h (by simp)) (kk)
        · refine jr_iload hX dL_law_899 rfl ?_
          refine jr_aload hX dL_law_901 rfl ?_
          refine jr_iload hX dL_law_903 rfl ?_
          refine jr_aald (t := 15) hX (by decide) kQ rfl (by omega) (pQ k (by omega)) dL_law_905 ?_
          refine jr_bipush (v := 6) hX dL_law_906 (by decide) ?_
          refine jr_iald hX (kR k (by omega)) (show _ = nI 6 from rfl) (by omega) dL_law_908 ?_
          rw [wQ k (by omega) 6 (by decide)]
          refine jr_iconst (v := 1) hX dL_law_909 (by decide) ?_
          refine jr_isub hX dL_law_910 ?_
          refine jr_icmp_eq (tgt := 916) hX dL_law_911 (by decide) (fun c_911 => ?_) (fun c_911 => absurd (show 0 = C (aB 0 k) 7 - 1 from by rw [← l7]; exact ((hg.1 c_871).2).resolve_left (fun q => c_896 (by rw [← l7]; exact q))) c_911)
          refine jr_aload hX dL_law_916 rfl ?_
          refine jr_iload hX dL_law_918 rfl ?_
          refine jr_aald (t := 15) hX (by decide) kQ rfl (by omega) (pQ k (by omega)) dL_law_920 ?_
          refine jr_iconst (v := 3) hX dL_law_921 (by decide) ?_
          refine jr_iald hX (kR k (by omega)) (show _ = nI 3 from rfl) (by omega) dL_law_922 ?_
          rw [wQ k (by omega) 3 (by decide)]
          refine jr_iconst (v := 2) hX dL_law_923 (by decide) ?_
          refine jr_icmp_ge (tgt := 975) hX dL_law_924 (by decide) (fun c_924 => ?_) (fun c_924 => ?_)
          · refine jr_iload hX dL_law_975 rfl ?_
            refine jr_iconst (v := 1) hX dL_law_977 (by decide) ?_
            refine jr_icmp_ne (tgt := 994) hX dL_law_978 (by decide) (fun c_978 => ?_) (fun c_978 => absurd c_978 (by decide))
            rw [sm_1 (show q_bi 0 2 I k = 0 from if_neg (by rw [e3]; decide))] at kk
            exact jr_forget (fun _ _ h => h) (fun i v h => by rcases i with _ | _ | _ | _ | _ | _ | _ | _ | _ | _ | _ | _ | _ | _ | _ | _ | _ | _ | _ | _ | _ | _ | _ | _ | _ | _ | _ | _ | _ | i <;> first | exact h | exact absurd h (by simp)) (kk)
          · refine jr_iload hX dL_law_927 rfl ?_
            refine jr_aload hX dL_law_929 rfl ?_
            refine jr_iload hX dL_law_931 rfl ?_
            refine jr_aald (t := 15) hX (by decide) kQ rfl (by omega) (pQ k (by omega)) dL_law_933 ?_
            refine jr_iconst (v := 4) hX dL_law_934 (by decide) ?_
            refine jr_iald hX (kR k (by omega)) (show _ = nI 4 from rfl) (by omega) dL_law_935 ?_
            rw [wQ k (by omega) 4 (by decide)]
            refine jr_icmp_eq (tgt := 975) hX dL_law_936 (by decide) (fun c_936 => ?_) (fun c_936 => ?_)
            · refine jr_iload hX dL_law_975 rfl ?_
              refine jr_iconst (v := 1) hX dL_law_977 (by decide) ?_
              refine jr_icmp_ne (tgt := 994) hX dL_law_978 (by decide) (fun c_978 => ?_) (fun c_978 => absurd c_978 (by decide))
              rw [sm_1 (show q_bi 0 2 I k = 0 from if_neg (by rw [e3]; decide))] at kk
              exact jr_forget (fun _ _ h => h) (fun i v h => by rcases i with _ | _ | _ | _ | _ | _ | _ | _ | _ | _ | _ | _ | _ | _ | _ | _ | _ | _ | _ | _ | _ | _ | _ | _ | _ | _ | _ | _ | _ | i <;> first | exact h | exact absurd h (by simp)) (kk)
            · refine jr_aload hX dL_law_939 rfl ?_
              refine jr_iload hX dL_law_941 rfl ?_
              refine jr_aald (t := 15) hX (by decide) kQ rfl (by omega) (pQ k (by omega)) dL_law_943 ?_
              refine jr_iconst (v := 5) hX dL_law_944 (by decide) ?_
              refine jr_iald hX (kR k (by omega)) (show _ = nI 5 from rfl) (by omega) dL_law_945 ?_
              rw [wQ k (by omega) 5 (by decide)]
              refine jr_iload hX dL_law_946 rfl ?_
              refine jr_isub hX dL_law_948 ?_
              refine jr_mabs (y := 0) hX kM_L_187 dL_law_949 rfl ⟨by first | (dsimp only; omega) | omega, by first | (dsimp only; omega) | omega⟩ ?_
              refine jr_aload hX dL_law_952 rfl ?_
              refine jr_iload hX dL_law_954 rfl ?_
              refine jr_aald (t := 15) hX (by decide) kQ rfl (by omega) (pQ k (by omega)) dL_law_956 ?_
              refine jr_iconst (v := 5) hX dL_law_957 (by decide) ?_
              refine jr_iald hX (kR k (by omega)) (show _ = nI 5 from rfl) (by omega) dL_law_958 ?_
              rw [wQ k (by omega) 5 (by decide)]
              refine jr_aload hX dL_law_959 rfl ?_
              refine jr_iload hX dL_law_961 rfl ?_
              refine jr_aald (t := 15) hX (by decide) kQ rfl (by omega) (pQ k (by omega)) dL_law_963 ?_
              refine jr_iconst (v := 4) hX dL_law_964 (by decide) ?_
              refine jr_iald hX (kR k (by omega)) (show _ = nI 4 from rfl) (by omega) dL_law_965 ?_
              rw [wQ k (by omega) 4 (by decide)]
              refine jr_isub hX dL_law_966 ?_
              refine jr_mabs (y := 0) hX kM_L_187 dL_law_967 rfl ⟨by first | (dsimp only; omega) | omega, by first | (dsimp only; omega) | omega⟩ ?_
              refine jr_icmp_lt (tgt := 975) hX dL_law_970 (by decide) (fun c_970 => ?_) (fun c_970 => absurd (show (if 0 ≤ C (aB 0 k) 6 - nI p then C (aB 0 k) 6 - nI p else 0 - (C (aB 0 k) 6 - nI p)) < (if 0 ≤ C (aB 0 k) 6 - C (aB 0 k) 4 then C (aB 0 k) 6 - C (aB 0 k) 4 else 0 - (C (aB 0 k) 6 - C (aB 0 k) 4)) from by rw [← ep]; exact (ck_ab hg (fun q => c_924 (show 2 ≤ C (aB 0 k) 3 by rw [q]; decide))).2 (fun q => c_936 (by rw [← ep]; exact q))) c_970)
              refine jr_iload hX dL_law_975 rfl ?_
              refine jr_iconst (v := 1) hX dL_law_977 (by decide) ?_
              refine jr_icmp_ne (tgt := 994) hX dL_law_978 (by decide) (fun c_978 => ?_) (fun c_978 => absurd c_978 (by decide))
              rw [sm_1 (show q_bi 0 2 I k = 0 from if_neg (by rw [e3]; decide))] at kk
              exact jr_forget (fun _ _ h => h) (fun i v h => by rcases i with _ | _ | _ | _ | _ | _ | _ | _ | _ | _ | _ | _ | _ | _ | _ | _ | _ | _ | _ | _ | _ | _ | _ | _ | _ | _ | _ | _ | _ | i <;> first | exact h | exact absurd h (by simp)) (kk)
  · refine jr_iconst (v := 1) hX dL_law_683 (by decide) ?_
    refine jr_goto (tgt := 688) hX dL_law_684 (by decide) ?_
    refine jr_istore hX dL_law_688 rfl ?_
    refine jr_iload hX dL_law_690 rfl ?_
    refine jr_iconst (v := 2) hX dL_law_692 (by decide) ?_
    refine jr_icmp_ge (tgt := 724) hX dL_law_693 (by decide) (fun c_693 => absurd c_693 (by decide)) (fun c_693 => ?_)
    refine jr_aload_n hX dL_law_696 rfl ?_
    refine jr_iload hX dL_law_697 rfl ?_
    refine jr_iconst (v := 1) hX dL_law_699 (by decide) ?_
    refine jr_ret (jr_runV hX hSt kM_L_158 (c_boat_ok (jj_fl hX) hly htc.1 (b := k) (t := 1) (by assumption) (by decide)) rfl rfl (ly_kI hly) ⟨_, _, rfl, by decide⟩ dL_law_700 rfl ⟨by simp only [jj_N]; omega, by simp only [jj_N]; omega⟩ rfl) ?_
    refine jr_aload hX dL_law_703 rfl ?_
    refine jr_iload hX dL_law_705 rfl ?_
    refine jr_aald (t := 15) hX (by decide) kQ rfl (by omega) (pQ k (by omega)) dL_law_707 ?_
    refine jr_iconst (v := 1) hX dL_law_708 (by decide) ?_
    refine jr_iald hX (kR k (by omega)) (show _ = nI 1 from rfl) (by omega) dL_law_709 ?_
    rw [wQ k (by omega) 1 (by decide)]
    refine jr_iload hX dL_law_710 rfl ?_
    refine jr_if_eq (tgt := 719) hX dL_law_712 (by decide) (fun c_712 => absurd c_712 (by decide)) (fun c_712 => ?_)
    refine jr_iconst (v := 1) hX dL_law_715 (by decide) ?_
    refine jr_goto (tgt := 720) hX dL_law_716 (by decide) ?_
    refine jr_isub hX dL_law_720 ?_
    refine jr_icmp_ne (tgt := 796) hX dL_law_721 (by decide) (fun c_721 => absurd c_721 (show ¬ ¬ _ = _ from fun q => q (show I (aB 0 k) 1 = C (aB 0 k) 1 - 1 from hB c_680))) (fun c_721 => ?_)
    refine jr_aload_n hX dL_law_724 rfl ?_
    refine jr_iload hX dL_law_725 rfl ?_
    refine jr_iconst (v := 1) hX dL_law_727 (by decide) ?_
    refine jr_ret (jr_runV hX hSt kM_L_158 (c_boat_ok (jj_fl hX) hly htc.1 (b := k) (t := 1) (by assumption) (by decide)) rfl rfl (ly_kI hly) ⟨_, _, rfl, by decide⟩ dL_law_728 rfl ⟨by simp only [jj_N]; omega, by simp only [jj_N]; omega⟩ rfl) ?_
    refine jr_aload hX dL_law_731 rfl ?_
    refine jr_iload hX dL_law_733 rfl ?_
    refine jr_aald (t := 15) hX (by decide) kQ rfl (by omega) (pQ k (by omega)) dL_law_735 ?_
    refine jr_iconst (v := 1) hX dL_law_736 (by decide) ?_
    refine jr_iald hX (kR k (by omega)) (show _ = nI 1 from rfl) (by omega) dL_law_737 ?_
    rw [wQ k (by omega) 1 (by decide)]
    refine jr_icmp_gt (tgt := 796) hX dL_law_738 (by decide) (fun c_738 => absurd c_738 (show ¬ C (aB 0 k) 1 < I (aB 0 k) 1 from hg1)) (fun c_738 => ?_)
    refine jr_aload_n hX dL_law_741 rfl ?_
    refine jr_iload hX dL_law_742 rfl ?_
    refine jr_iconst (v := 1) hX dL_law_744 (by decide) ?_
    refine jr_ret (jr_runV hX hSt kM_L_158 (c_boat_ok (jj_fl hX) hly htc.1 (b := k) (t := 1) (by assumption) (by decide)) rfl rfl (ly_kI hly) ⟨_, _, rfl, by decide⟩ dL_law_745 rfl ⟨by simp only [jj_N]; omega, by simp only [jj_N]; omega⟩ rfl) ?_
    refine jr_aload hX dL_law_748 rfl ?_
    refine jr_iload hX dL_law_750 rfl ?_
    refine jr_aald (t := 15) hX (by decide) kQ rfl (by omega) (pQ k (by omega)) dL_law_752 ?_
    refine jr_iconst (v := 1) hX dL_law_753 (by decide) ?_
    refine jr_iald hX (kR k (by omega)) (show _ = nI 1 from rfl) (by omega) dL_law_754 ?_
    rw [wQ k (by omega) 1 (by decide)]
    refine jr_iconst (v := 1) hX dL_law_755 (by decide) ?_
    refine jr_isub hX dL_law_756 ?_
    refine jr_icmp_lt (tgt := 796) hX dL_law_757 (by decide) (fun c_757 => absurd c_757 (show ¬ I (aB 0 k) 1 < C (aB 0 k) 1 - 1 from hg2)) (fun c_757 => ?_)
    refine jr_aload_n hX dL_law_760 rfl ?_
    refine jr_iload hX dL_law_761 rfl ?_
    refine jr_bipush (v := 7) hX dL_law_763 (by decide) ?_
    refine jr_ret (jr_runV hX hSt kM_L_158 (c_boat_ok (jj_fl hX) hly htc.1 (b := k) (t := 7) (by assumption) (by decide)) rfl rfl (ly_kI hly) ⟨_, _, rfl, by decide⟩ dL_law_765 rfl ⟨by simp only [jj_N]; omega, by simp only [jj_N]; omega⟩ rfl) ?_
    refine jr_aload hX dL_law_768 rfl ?_
    refine jr_iload hX dL_law_770 rfl ?_
    refine jr_aald (t := 15) hX (by decide) kQ rfl (by omega) (pQ k (by omega)) dL_law_772 ?_
    refine jr_bipush (v := 7) hX dL_law_773 (by decide) ?_
    refine jr_iald hX (kR k (by omega)) (show _ = nI 7 from rfl) (by omega) dL_law_775 ?_
    rw [wQ k (by omega) 7 (by decide)]
    refine jr_icmp_ne (tgt := 796) hX dL_law_776 (by decide) (fun c_776 => absurd c_776 (show ¬ ¬ _ = _ from fun q => q (show sm (I (aBc 0 k)) 4 = sm (C (aBc 0 k)) 4 by rw [hc]))) (fun c_776 => ?_)
    refine jr_aload_n hX dL_law_779 rfl ?_
    refine jr_iload hX dL_law_780 rfl ?_
    refine jr_iconst (v := 5) hX dL_law_782 (by decide) ?_
    refine jr_ret (jr_runV hX hSt kM_L_158 (c_boat_ok (jj_fl hX) hly htc.1 (b := k) (t := 5) (by assumption) (by decide)) rfl rfl (ly_kI hly) ⟨_, _, rfl, by decide⟩ dL_law_783 rfl ⟨by simp only [jj_N]; omega, by simp only [jj_N]; omega⟩ rfl) ?_
    refine jr_aload hX dL_law_786 rfl ?_
    refine jr_iload hX dL_law_788 rfl ?_
    refine jr_aald (t := 15) hX (by decide) kQ rfl (by omega) (pQ k (by omega)) dL_law_790 ?_
    refine jr_iconst (v := 5) hX dL_law_791 (by decide) ?_
    refine jr_iald hX (kR k (by omega)) (show _ = nI 5 from rfl) (by omega) dL_law_792 ?_
    rw [wQ k (by omega) 5 (by decide)]
    refine jr_icmp_eq (tgt := 798) hX dL_law_793 (by decide) (fun c_793 => ?_) (fun c_793 => absurd (show I (aB 0 k) 6 = C (aB 0 k) 6 from e6) c_793)
    refine jr_iload hX dL_law_798 rfl ?_
    refine jr_if_lt (tgt := 833) hX dL_law_800 (by decide) (fun c_800 => absurd c_800 (by decide)) (fun c_800 => ?_)
    refine jr_iload hX dL_law_803 rfl ?_
    refine jr_iconst (v := 2) hX dL_law_805 (by decide) ?_
    refine jr_icmp_eq (tgt := 814) hX dL_law_806 (by decide) (fun c_806 => absurd c_806 (by decide)) (fun c_806 => ?_)
    refine jr_iload hX dL_law_809 rfl ?_
    refine jr_if_ne (tgt := 833) hX dL_law_811 (by decide) (fun c_811 => absurd c_811 (fun q => q rfl)) (fun c_811 => ?_)
    refine jr_iload hX dL_law_814 rfl ?_
    refine jr_iconst (v := 2) hX dL_law_816 (by decide) ?_
    refine jr_icmp_ne (tgt := 835) hX dL_law_817 (by decide) (fun c_817 => ?_) (fun c_817 => absurd c_817 (by decide))
    refine jr_aload hX dL_law_835 rfl ?_
    refine jr_iload hX dL_law_837 rfl ?_
    refine jr_aald (t := 15) hX (by decide) kQ rfl (by omega) (pQ k (by omega)) dL_law_839 ?_
    refine jr_iconst (v := 3) hX dL_law_840 (by decide) ?_
    refine jr_iald hX (kR k (by omega)) (show _ = nI 3 from rfl) (by omega) dL_law_841 ?_
    rw [wQ k (by omega) 3 (by decide)]
    refine jr_iconst (v := 2) hX dL_law_842 (by decide) ?_
    refine jr_icmp_ge (tgt := 863) hX dL_law_843 (by decide) (fun c_843 => ?_) (fun c_843 => ?_)
    · refine jr_aload hX dL_law_863 rfl ?_
      refine jr_iload hX dL_law_865 rfl ?_
      refine jr_aald (t := 15) hX (by decide) kQ rfl (by omega) (pQ k (by omega)) dL_law_867 ?_
      refine jr_iconst (v := 3) hX dL_law_868 (by decide) ?_
      refine jr_iald hX (kR k (by omega)) (show _ = nI 3 from rfl) (by omega) dL_law_869 ?_
      rw [wQ k (by omega) 3 (by decide)]
      refine jr_iconst (v := 2) hX dL_law_870 (by decide) ?_
      refine jr_icmp_ne (tgt := 916) hX dL_law_871 (by decide) (fun c_871 => ?_) (fun c_871 => ?_)
      · refine jr_aload hX dL_law_916 rfl ?_
        refine jr_iload hX dL_law_918 rfl ?_
        refine jr_aald (t := 15) hX (by decide) kQ rfl (by omega) (pQ k (by omega)) dL_law_920 ?_
        refine jr_iconst (v := 3) hX dL_law_921 (by decide) ?_
        refine jr_iald hX (kR k (by omega)) (show _ = nI 3 from rfl) (by omega) dL_law_922 ?_
        rw [wQ k (by omega) 3 (by decide)]
        refine jr_iconst (v := 2) hX dL_law_923 (by decide) ?_
        refine jr_icmp_ge (tgt := 975) hX dL_law_924 (by decide) (fun c_924 => ?_) (fun c_924 => ?_)
        · refine jr_iload hX dL_law_975 rfl ?_
          refine jr_iconst (v := 1) hX dL_law_977 (by decide) ?_
          refine jr_icmp_ne (tgt := 994) hX dL_law_978 (by decide) (fun c_978 => ?_) (fun c_978 => absurd c_978 (by decide))
          rw [sm_1 (show q_bi 0 2 I k = 0 from if_neg (by rw [e3]; decide))] at kk
          exact jr_forget (fun _ _ h => h) (fun i v h => by rcases i with _ | _ | _ | _ | _ | _ | _ | _ | _ | _ | _ | _ | _ | _ | _ | _ | _ | _ | _ | _ | _ | _ | _ | _ | _ | _ | _ | _ | _ | i <;> first | exact h | exact absurd h (by simp)) (kk)
        · refine jr_iload hX dL_law_927 rfl ?_
          refine jr_aload hX dL_law_929 rfl ?_
          refine jr_iload hX dL_law_931 rfl ?_
          refine jr_aald (t := 15) hX (by decide) kQ rfl (by omega) (pQ k (by omega)) dL_law_933 ?_
          refine jr_iconst (v := 4) hX dL_law_934 (by decide) ?_
          refine jr_iald hX (kR k (by omega)) (show _ = nI 4 from rfl) (by omega) dL_law_935 ?_
          rw [wQ k (by omega) 4 (by decide)]
          refine jr_icmp_eq (tgt := 975) hX dL_law_936 (by decide) (fun c_936 => ?_) (fun c_936 => ?_)
          · refine jr_iload hX dL_law_975 rfl ?_
            refine jr_iconst (v := 1) hX dL_law_977 (by decide) ?_
            refine jr_icmp_ne (tgt := 994) hX dL_law_978 (by decide) (fun c_978 => ?_) (fun c_978 => absurd c_978 (by decide))
            rw [sm_1 (show q_bi 0 2 I k = 0 from if_neg (by rw [e3]; decide))] at kk
            exact jr_forget (fun _ _ h => h) (fun i v h => by rcases i with _ | _ | _ | _ | _ | _ | _ | _ | _ | _ | _ | _ | _ | _ | _ | _ | _ | _ | _ | _ | _ | _ | _ | _ | _ | _ | _ | _ | _ | i <;> first | exact h | exact absurd h (by simp)) (kk)
          · refine jr_aload hX dL_law_939 rfl ?_
            refine jr_iload hX dL_law_941 rfl ?_
            refine jr_aald (t := 15) hX (by decide) kQ rfl (by omega) (pQ k (by omega)) dL_law_943 ?_
            refine jr_iconst (v := 5) hX dL_law_944 (by decide) ?_
            refine jr_iald hX (kR k (by omega)) (show _ = nI 5 from rfl) (by omega) dL_law_945 ?_
            rw [wQ k (by omega) 5 (by decide)]
            refine jr_iload hX dL_law_946 rfl ?_
            refine jr_isub hX dL_law_948 ?_
            refine jr_mabs (y := 0) hX kM_L_187 dL_law_949 rfl ⟨by first | (dsimp only; omega) | omega, by first | (dsimp only; omega) | omega⟩ ?_
            refine jr_aload hX dL_law_952 rfl ?_
            refine jr_iload hX dL_law_954 rfl ?_
            refine jr_aald (t := 15) hX (by decide) kQ rfl (by omega) (pQ k (by omega)) dL_law_956 ?_
            refine jr_iconst (v := 5) hX dL_law_957 (by decide) ?_
            refine jr_iald hX (kR k (by omega)) (show _ = nI 5 from rfl) (by omega) dL_law_958 ?_
            rw [wQ k (by omega) 5 (by decide)]
            refine jr_aload hX dL_law_959 rfl ?_
            refine jr_iload hX dL_law_961 rfl ?_
            refine jr_aald (t := 15) hX (by decide) kQ rfl (by omega) (pQ k (by omega)) dL_law_963 ?_
            refine jr_iconst (v := 4) hX dL_law_964 (by decide) ?_
            refine jr_iald hX (kR k (by omega)) (show _ = nI 4 from rfl) (by omega) dL_law_965 ?_
            rw [wQ k (by omega) 4 (by decide)]
            refine jr_isub hX dL_law_966 ?_
            refine jr_mabs (y := 0) hX kM_L_187 dL_law_967 rfl ⟨by first | (dsimp only; omega) | omega, by first | (dsimp only; omega) | omega⟩ ?_
            refine jr_icmp_lt (tgt := 975) hX dL_law_970 (by decide) (fun c_970 => ?_) (fun c_970 => absurd (show (if 0 ≤ C (aB 0 k) 6 - nI p then C (aB 0 k) 6 - nI p else 0 - (C (aB 0 k) 6 - nI p)) < (if 0 ≤ C (aB 0 k) 6 - C (aB 0 k) 4 then C (aB 0 k) 6 - C (aB 0 k) 4 else 0 - (C (aB 0 k) 6 - C (aB 0 k) 4)) from by rw [← ep]; exact (ck_ab hg (fun q => c_924 (show 2 ≤ C (aB 0 k) 3 by rw [q]; decide))).2 (fun q => c_936 (by rw [← ep]; exact q))) c_970)
            refine jr_iload hX dL_law_975 rfl ?_
            refine jr_iconst (v := 1) hX dL_law_977 (by decide) ?_
            refine jr_icmp_ne (tgt := 994) hX dL_law_978 (by decide) (fun c_978 => ?_) (fun c_978 => absurd c_978 (by decide))
            rw [sm_1 (show q_bi 0 2 I k = 0 from if_neg (by rw [e3]; decide))] at kk
            exact jr_forget (fun _ _ h => h) (fun i v h => by rcases i with _ | _ | _ | _ | _ | _ | _ | _ | _ | _ | _ | _ | _ | _ | _ | _ | _ | _ | _ | _ | _ | _ | _ | _ | _ | _ | _ | _ | _ | i <;> first | exact h | exact absurd h (by simp)) (kk)
      · refine jr_iload hX dL_law_874 rfl ?_
        refine jr_aload hX dL_law_876 rfl ?_
        refine jr_iload hX dL_law_878 rfl ?_
        refine jr_aald (t := 15) hX (by decide) kQ rfl (by omega) (pQ k (by omega)) dL_law_880 ?_
        refine jr_iconst (v := 4) hX dL_law_881 (by decide) ?_
        refine jr_iald hX (kR k (by omega)) (show _ = nI 4 from rfl) (by omega) dL_law_882 ?_
        rw [wQ k (by omega) 4 (by decide)]
        refine jr_icmp_ne (tgt := 914) hX dL_law_883 (by decide) (fun c_883 => absurd c_883 (show ¬ ¬ nI p = C (aB 0 k) 4 from fun q => q (by rw [← ep]; exact (hg.1 c_871).1))) (fun c_883 => ?_)
        refine jr_iload hX dL_law_886 rfl ?_
        refine jr_aload hX dL_law_888 rfl ?_
        refine jr_iload hX dL_law_890 rfl ?_
        refine jr_aald (t := 15) hX (by decide) kQ rfl (by omega) (pQ k (by omega)) dL_law_892 ?_
        refine jr_bipush (v := 6) hX dL_law_893 (by decide) ?_
        refine jr_iald hX (kR k (by omega)) (show _ = nI 6 from rfl) (by omega) dL_law_895 ?_
        rw [wQ k (by omega) 6 (by decide)]
        refine jr_icmp_eq (tgt := 916) hX dL_law_896 (by decide) (fun c_896 => ?_) (fun c_896 => ?_)
        · refine jr_aload hX dL_law_916 rfl ?_
          refine jr_iload hX dL_law_918 rfl ?_
          refine jr_aald (t := 15) hX (by decide) kQ rfl (by omega) (pQ k (by omega)) dL_law_920 ?_
          refine jr_iconst (v := 3) hX dL_law_921 (by decide) ?_
          refine jr_iald hX (kR k (by omega)) (show _ = nI 3 from rfl) (by omega) dL_law_922 ?_
          rw [wQ k (by omega) 3 (by decide)]
          refine jr_iconst (v := 2) hX dL_law_923 (by decide) ?_
          refine jr_icmp_ge (tgt := 975) hX dL_law_924 (by decide) (fun c_924 => ?_) (fun c_924 => ?_)
          · refine jr_iload hX dL_law_975 rfl ?_
            refine jr_iconst (v := 1) hX dL_law_977 (by decide) ?_
            refine jr_icmp_ne (tgt := 994) hX dL_law_978 (by decide) (fun c_978 => ?_) (fun c_978 => absurd c_978 (by decide))
            rw [sm_1 (show q_bi 0 2 I k = 0 from if_neg (by rw [e3]; decide))] at kk
            exact jr_forget (fun _ _ h => h) (fun i v h => by rcases i with _ | _ | _ | _ | _ | _ | _ | _ | _ | _ | _ | _ | _ | _ | _ | _ | _ | _ | _ | _ | _ | _ | _ | _ | _ | _ | _ | _ | _ | i <;> first | exact h | exact absurd h (by simp)) (kk)
          · refine jr_iload hX dL_law_927 rfl ?_
            refine jr_aload hX dL_law_929 rfl ?_
            refine jr_iload hX dL_law_931 rfl ?_
            refine jr_aald (t := 15) hX (by decide) kQ rfl (by omega) (pQ k (by omega)) dL_law_933 ?_
            refine jr_iconst (v := 4) hX dL_law_934 (by decide) ?_
            refine jr_iald hX (kR k (by omega)) (show _ = nI 4 from rfl) (by omega) dL_law_935 ?_
            rw [wQ k (by omega) 4 (by decide)]
            refine jr_icmp_eq (tgt := 975) hX dL_law_936 (by decide) (fun c_936 => ?_) (fun c_936 => ?_)
            · refine jr_iload hX dL_law_975 rfl ?_
              refine jr_iconst (v := 1) hX dL_law_977 (by decide) ?_
              refine jr_icmp_ne (tgt := 994) hX dL_law_978 (by decide) (fun c_978 => ?_) (fun c_978 => absurd c_978 (by decide))
              rw [sm_1 (show q_bi 0 2 I k = 0 from if_neg (by rw [e3]; decide))] at kk
              exact jr_forget (fun _ _ h => h) (fun i v h => by rcases i with _ | _ | _ | _ | _ | _ | _ | _ | _ | _ | _ | _ | _ | _ | _ | _ | _ | _ | _ | _ | _ | _ | _ | _ | _ | _ | _ | _ | _ | i <;> first | exact h | exact absurd h (by simp)) (kk)
            · refine jr_aload hX dL_law_939 rfl ?_
              refine jr_iload hX dL_law_941 rfl ?_
              refine jr_aald (t := 15) hX (by decide) kQ rfl (by omega) (pQ k (by omega)) dL_law_943 ?_
              refine jr_iconst (v := 5) hX dL_law_944 (by decide) ?_
              refine jr_iald hX (kR k (by omega)) (show _ = nI 5 from rfl) (by omega) dL_law_945 ?_
              rw [wQ k (by omega) 5 (by decide)]
              refine jr_iload hX dL_law_946 rfl ?_
              refine jr_isub hX dL_law_948 ?_
              refine jr_mabs (y := 0) hX kM_L_187 dL_law_949 rfl ⟨by first | (dsimp only; omega) | omega, by first | (dsimp only; omega) | omega⟩ ?_
              refine jr_aload hX dL_law_952 rfl ?_
              refine jr_iload hX dL_law_954 rfl ?_
              refine jr_aald (t := 15) hX (by decide) kQ rfl (by omega) (pQ k (by omega)) dL_law_956 ?_
              refine jr_iconst (v := 5) hX dL_law_957 (by decide) ?_
              refine jr_iald hX (kR k (by omega)) (show _ = nI 5 from rfl) (by omega) dL_law_958 ?_
              rw [wQ k (by omega) 5 (by decide)]
              refine jr_aload hX dL_law_959 rfl ?_
              refine jr_iload hX dL_law_961 rfl ?_
              refine jr_aald (t := 15) hX (by decide) kQ rfl (by omega) (pQ k (by omega)) dL_law_963 ?_
              refine jr_iconst (v := 4) hX dL_law_964 (by decide) ?_
              refine jr_iald hX (kR k (by omega)) (show _ = nI 4 from rfl) (by omega) dL_law_965 ?_
              rw [wQ k (by omega) 4 (by decide)]
              refine jr_isub hX dL_law_966 ?_
              refine jr_mabs (y := 0) hX kM_L_187 dL_law_967 rfl ⟨by first | (dsimp only; omega) | omega, by first | (dsimp only; omega) | omega⟩ ?_
              refine jr_icmp_lt (tgt := 975) hX dL_law_970 (by decide) (fun c_970 => ?_) (fun c_970 => absurd (show (if 0 ≤ C (aB 0 k) 6 - nI p then C (aB 0 k) 6 - nI p else 0 - (C (aB 0 k) 6 - nI p)) < (if 0 ≤ C (aB 0 k) 6 - C (aB 0 k) 4 then C (aB 0 k) 6 - C (aB 0 k) 4 else 0 - (C (aB 0 k) 6 - C (aB 0 k) 4)) from by rw [← ep]; exact (ck_ab hg (fun q => c_924 (show 2 ≤ C (aB 0 k) 3 by rw [q]; decide))).2 (fun q => c_936 (by rw [← ep]; exact q))) c_970)
              refine jr_iload hX dL_law_975 rfl ?_
              refine jr_iconst (v := 1) hX dL_law_977 (by decide) ?_
              refine jr_icmp_ne (tgt := 994) hX dL_law_978 (by decide) (fun c_978 => ?_) (fun c_978 => absurd c_978 (by decide))
              rw [sm_1 (show q_bi 0 2 I k = 0 from if_neg (by rw [e3]; decide))] at kk
              exact jr_forget (fun _ _ h => h) (fun i v h => by rcases i with _ | _ | _ | _ | _ | _ | _ | _ | _ | _ | _ | _ | _ | _ | _ | _ | _ | _ | _ | _ | _ | _ | _ | _ | _ | _ | _ | _ | _ | i <;> first | exact h | exact absurd h (by simp)) (kk)
        · refine jr_iload hX dL_law_899 rfl ?_
          refine jr_aload hX dL_law_901 rfl ?_
          refine jr_iload hX dL_law_903 rfl ?_
          refine jr_aald (t := 15) hX (by decide) kQ rfl (by omega) (pQ k (by omega)) dL_law_905 ?_
          refine jr_bipush (v := 6) hX dL_law_906 (by decide) ?_
          refine jr_iald hX (kR k (by omega)) (show _ = nI 6 from rfl) (by omega) dL_law_908 ?_
          rw [wQ k (by omega) 6 (by decide)]
          refine jr_iconst (v := 1) hX dL_law_909 (by decide) ?_
          refine jr_isub hX dL_law_910 ?_
          refine jr_icmp_eq (tgt := 916) hX dL_law_911 (by decide) (fun c_911 => ?_) (fun c_911 => absurd (show 0 = C (aB 0 k) 7 - 1 from by rw [← l7]; exact ((hg.1 c_871).2).resolve_left (fun q => c_896 (by rw [← l7]; exact q))) c_911)
          refine jr_aload hX dL_law_916 rfl ?_
          refine jr_iload hX dL_law_918 rfl ?_
          refine jr_aald (t := 15) hX (by decide) kQ rfl (by omega) (pQ k (by omega)) dL_law_920 ?_
          refine jr_iconst (v := 3) hX dL_law_921 (by decide) ?_
          refine jr_iald hX (kR k (by omega)) (show _ = nI 3 from rfl) (by omega) dL_law_922 ?_
          rw [wQ k (by omega) 3 (by decide)]
          refine jr_iconst (v := 2) hX dL_law_923 (by decide) ?_
          refine jr_icmp_ge (tgt := 975) hX dL_law_924 (by decide) (fun c_924 => ?_) (fun c_924 => ?_)
          · refine jr_iload hX dL_law_975 rfl ?_
            refine jr_iconst (v := 1) hX dL_law_977 (by decide) ?_
            refine jr_icmp_ne (tgt := 994) hX dL_law_978 (by decide) (fun c_978 => ?_) (fun c_978 => absurd c_978 (by decide))
            rw [sm_1 (show q_bi 0 2 I k = 0 from if_neg (by rw [e3]; decide))] at kk
            exact jr_forget (fun _ _ h => h) (fun i v h => by rcases i with _ | _ | _ | _ | _ | _ | _ | _ | _ | _ | _ | _ | _ | _ | _ | _ | _ | _ | _ | _ | _ | _ | _ | _ | _ | _ | _ | _ | _ | i <;> first | exact h | exact absurd h (by simp)) (kk)
          · refine jr_iload hX dL_law_927 rfl ?_
            refine jr_aload hX dL_law_929 rfl ?_
            refine jr_iload hX dL_law_931 rfl ?_
            refine jr_aald (t := 15) hX (by decide) kQ rfl (by omega) (pQ k (by omega)) dL_law_933 ?_
            refine jr_iconst (v := 4) hX dL_law_934 (by decide) ?_
            refine jr_iald hX (kR k (by omega)) (show _ = nI 4 from rfl) (by omega) dL_law_935 ?_
            rw [wQ k (by omega) 4 (by decide)]
            refine jr_icmp_eq (tgt := 975) hX dL_law_936 (by decide) (fun c_936 => ?_) (fun c_936 => ?_)
            · refine jr_iload hX dL_law_975 rfl ?_
              refine jr_iconst (v := 1) hX dL_law_977 (by decide) ?_
              refine jr_icmp_ne (tgt := 994) hX dL_law_978 (by decide) (fun c_978 => ?_) (fun c_978 => absurd c_978 (by decide))
              rw [sm_1 (show q_bi 0 2 I k = 0 from if_neg (by rw [e3]; decide))] at kk
              exact jr_forget (fun _ _ h => h) (fun i v h => by rcases i with _ | _ | _ | _ | _ | _ | _ | _ | _ | _ | _ | _ | _ | _ | _ | _ | _ | _ | _ | _ | _ | _ | _ | _ | _ | _ | _ | _ | _ | i <;> first | exact h | exact absurd h (by simp)) (kk)
            · refine jr_aload hX dL_law_939 rfl ?_
              refine jr_iload hX dL_law_941 rfl ?_
              refine jr_aald (t := 15) hX (by decide) kQ rfl (by omega) (pQ k (by omega)) dL_law_943 ?_
              refine jr_iconst (v := 5) hX dL_law_944 (by decide) ?_
              refine jr_iald hX (kR k (by omega)) (show _ = nI 5 from rfl) (by omega) dL_law_945 ?_
              rw [wQ k (by omega) 5 (by decide)]
              refine jr_iload hX dL_law_946 rfl ?_
              refine jr_isub hX dL_law_948 ?_
              refine jr_mabs (y := 0) hX kM_L_187 dL_law_949 rfl ⟨by first | (dsimp only; omega) | omega, by first | (dsimp only; omega) | omega⟩ ?_
              refine jr_aload hX dL_law_952 rfl ?_
              refine jr_iload hX dL_law_954 rfl ?_
              refine jr_aald (t := 15) hX (by decide) kQ rfl (by omega) (pQ k (by omega)) dL_law_956 ?_
              refine jr_iconst (v := 5) hX dL_law_957 (by decide) ?_
              refine jr_iald hX (kR k (by omega)) (show _ = nI 5 from rfl) (by omega) dL_law_958 ?_
              rw [wQ k (by omega) 5 (by decide)]
              refine jr_aload hX dL_law_959 rfl ?_
              refine jr_iload hX dL_law_961 rfl ?_
              refine jr_aald (t := 15) hX (by decide) kQ rfl (by omega) (pQ k (by omega)) dL_law_963 ?_
              refine jr_iconst (v := 4) hX dL_law_964 (by decide) ?_
              refine jr_iald hX (kR k (by omega)) (show _ = nI 4 from rfl) (by omega) dL_law_965 ?_
              rw [wQ k (by omega) 4 (by decide)]
              refine jr_isub hX dL_law_966 ?_
              refine jr_mabs (y := 0) hX kM_L_187 dL_law_967 rfl ⟨by first | (dsimp only; omega) | omega, by first | (dsimp only; omega) | omega⟩ ?_
              refine jr_icmp_lt (tgt := 975) hX dL_law_970 (by decide) (fun c_970 => ?_) (fun c_970 => absurd (show (if 0 ≤ C (aB 0 k) 6 - nI p then C (aB 0 k) 6 - nI p else 0 - (C (aB 0 k) 6 - nI p)) < (if 0 ≤ C (aB 0 k) 6 - C (aB 0 k) 4 then C (aB 0 k) 6 - C (aB 0 k) 4 else 0 - (C (aB 0 k) 6 - C (aB 0 k) 4)) from by rw [← ep]; exact (ck_ab hg (fun q => c_924 (show 2 ≤ C (aB 0 k) 3 by rw [q]; decide))).2 (fun q => c_936 (by rw [← ep]; exact q))) c_970)
              refine jr_iload hX dL_law_975 rfl ?_
              refine jr_iconst (v := 1) hX dL_law_977 (by decide) ?_
              refine jr_icmp_ne (tgt := 994) hX dL_law_978 (by decide) (fun c_978 => ?_) (fun c_978 => absurd c_978 (by decide))
              rw [sm_1 (show q_bi 0 2 I k = 0 from if_neg (by rw [e3]; decide))] at kk
              exact jr_forget (fun _ _ h => h) (fun i v h => by rcases i with _ | _ | _ | _ | _ | _ | _ | _ | _ | _ | _ | _ | _ | _ | _ | _ | _ | _ | _ | _ | _ | _ | _ | _ | _ | _ | _ | _ | _ | i <;> first | exact h | exact absurd h (by simp)) (kk)
    · refine jr_iload hX dL_law_846 rfl ?_
      refine jr_aload hX dL_law_848 rfl ?_
      refine jr_iload hX dL_law_850 rfl ?_
      refine jr_aald (t := 15) hX (by decide) kQ rfl (by omega) (pQ k (by omega)) dL_law_852 ?_
      refine jr_iconst (v := 4) hX dL_law_853 (by decide) ?_
      refine jr_iald hX (kR k (by omega)) (show _ = nI 4 from rfl) (by omega) dL_law_854 ?_
      rw [wQ k (by omega) 4 (by decide)]
      refine jr_isub hX dL_law_855 ?_
      refine jr_mabs (y := 0) hX kM_L_187 dL_law_856 rfl ⟨by first | (dsimp only; omega) | omega, by first | (dsimp only; omega) | omega⟩ ?_
      refine jr_iconst (v := 1) hX dL_law_859 (by decide) ?_
      refine jr_icmp_gt (tgt := 914) hX dL_law_860 (by decide) (fun c_860 => absurd c_860 (show ¬ 1 < (if 0 ≤ nI p - C (aB 0 k) 4 then nI p - C (aB 0 k) 4 else 0 - (nI p - C (aB 0 k) 4)) from by rw [← ep]; exact (ck_ab hg (fun q => c_843 (show 2 ≤ C (aB 0 k) 3 by rw [q]; decide))).1)) (fun c_860 => ?_)
      refine jr_aload hX dL_law_863 rfl ?_
      refine jr_iload hX dL_law_865 rfl ?_
      refine jr_aald (t := 15) hX (by decide) kQ rfl (by omega) (pQ k (by omega)) dL_law_867 ?_
      refine jr_iconst (v := 3) hX dL_law_868 (by decide) ?_
      refine jr_iald hX (kR k (by omega)) (show _ = nI 3 from rfl) (by omega) dL_law_869 ?_
      rw [wQ k (by omega) 3 (by decide)]
      refine jr_iconst (v := 2) hX dL_law_870 (by decide) ?_
      refine jr_icmp_ne (tgt := 916) hX dL_law_871 (by decide) (fun c_871 => ?_) (fun c_871 => ?_)
      · refine jr_aload hX dL_law_916 rfl ?_
        refine jr_iload hX dL_law_918 rfl ?_
        refine jr_aald (t := 15) hX (by decide) kQ rfl (by omega) (pQ k (by omega)) dL_law_920 ?_
        refine jr_iconst (v := 3) hX dL_law_921 (by decide) ?_
        refine jr_iald hX (kR k (by omega)) (show _ = nI 3 from rfl) (by omega) dL_law_922 ?_
        rw [wQ k (by omega) 3 (by decide)]
        refine jr_iconst (v := 2) hX dL_law_923 (by decide) ?_
        refine jr_icmp_ge (tgt := 975) hX dL_law_924 (by decide) (fun c_924 => ?_) (fun c_924 => ?_)
        · refine jr_iload hX dL_law_975 rfl ?_
          refine jr_iconst (v := 1) hX dL_law_977 (by decide) ?_
          refine jr_icmp_ne (tgt := 994) hX dL_law_978 (by decide) (fun c_978 => ?_) (fun c_978 => absurd c_978 (by decide))
          rw [sm_1 (show q_bi 0 2 I k = 0 from if_neg (by rw [e3]; decide))] at kk
          exact jr_forget (fun _ _ h => h) (fun i v h => by rcases i with _ | _ | _ | _ | _ | _ | _ | _ | _ | _ | _ | _ | _ | _ | _ | _ | _ | _ | _ | _ | _ | _ | _ | _ | _ | _ | _ | _ | _ | i <;> first | exact h | exact absurd h (by simp)) (kk)
        · refine jr_iload hX dL_law_927 rfl ?_
          refine jr_aload hX dL_law_929 rfl ?_
          refine jr_iload hX dL_law_931 rfl ?_
          refine jr_aald (t := 15) hX (by decide) kQ rfl (by omega) (pQ k (by omega)) dL_law_933 ?_
          refine jr_iconst (v := 4) hX dL_law_934 (by decide) ?_
          refine jr_iald hX (kR k (by omega)) (show _ = nI 4 from rfl) (by omega) dL_law_935 ?_
          rw [wQ k (by omega) 4 (by decide)]
          refine jr_icmp_eq (tgt := 975) hX dL_law_936 (by decide) (fun c_936 => ?_) (fun c_936 => ?_)
          · refine jr_iload hX dL_law_975 rfl ?_
            refine jr_iconst (v := 1) hX dL_law_977 (by decide) ?_
            refine jr_icmp_ne (tgt := 994) hX dL_law_978 (by decide) (fun c_978 => ?_) (fun c_978 => absurd c_978 (by decide))
            rw [sm_1 (show q_bi 0 2 I k = 0 from if_neg (by rw [e3]; decide))] at kk
            exact jr_forget (fun _ _ h => h) (fun i v h => by rcases i with _ | _ | _ | _ | _ | _ | _ | _ | _ | _ | _ | _ | _ | _ | _ | _ | _ | _ | _ | _ | _ | _ | _ | _ | _ | _ | _ | _ | _ | i <;> first | exact h | exact absurd h (by simp)) (kk)
          · refine jr_aload hX dL_law_939 rfl ?_
            refine jr_iload hX dL_law_941 rfl ?_
            refine jr_aald (t := 15) hX (by decide) kQ rfl (by omega) (pQ k (by omega)) dL_law_943 ?_
            refine jr_iconst (v := 5) hX dL_law_944 (by decide) ?_
            refine jr_iald hX (kR k (by omega)) (show _ = nI 5 from rfl) (by omega) dL_law_945 ?_
            rw [wQ k (by omega) 5 (by decide)]
            refine jr_iload hX dL_law_946 rfl ?_
            refine jr_isub hX dL_law_948 ?_
            refine jr_mabs (y := 0) hX kM_L_187 dL_law_949 rfl ⟨by first | (dsimp only; omega) | omega, by first | (dsimp only; omega) | omega⟩ ?_
            refine jr_aload hX dL_law_952 rfl ?_
            refine jr_iload hX dL_law_954 rfl ?_
            refine jr_aald (t := 15) hX (by decide) kQ rfl (by omega) (pQ k (by omega)) dL_law_956 ?_
            refine jr_iconst (v := 5) hX dL_law_957 (by decide) ?_
            refine jr_iald hX (kR k (by omega)) (show _ = nI 5 from rfl) (by omega) dL_law_958 ?_
            rw [wQ k (by omega) 5 (by decide)]
            refine jr_aload hX dL_law_959 rfl ?_
            refine jr_iload hX dL_law_961 rfl ?_
            refine jr_aald (t := 15) hX (by decide) kQ rfl (by omega) (pQ k (by omega)) dL_law_963 ?_
            refine jr_iconst (v := 4) hX dL_law_964 (by decide) ?_
            refine jr_iald hX (kR k (by omega)) (show _ = nI 4 from rfl) (by omega) dL_law_965 ?_
            rw [wQ k (by omega) 4 (by decide)]
            refine jr_isub hX dL_law_966 ?_
            refine jr_mabs (y := 0) hX kM_L_187 dL_law_967 rfl ⟨by first | (dsimp only; omega) | omega, by first | (dsimp only; omega) | omega⟩ ?_
            refine jr_icmp_lt (tgt := 975) hX dL_law_970 (by decide) (fun c_970 => ?_) (fun c_970 => absurd (show (if 0 ≤ C (aB 0 k) 6 - nI p then C (aB 0 k) 6 - nI p else 0 - (C (aB 0 k) 6 - nI p)) < (if 0 ≤ C (aB 0 k) 6 - C (aB 0 k) 4 then C (aB 0 k) 6 - C (aB 0 k) 4 else 0 - (C (aB 0 k) 6 - C (aB 0 k) 4)) from by rw [← ep]; exact (ck_ab hg (fun q => c_924 (show 2 ≤ C (aB 0 k) 3 by rw [q]; decide))).2 (fun q => c_936 (by rw [← ep]; exact q))) c_970)
            refine jr_iload hX dL_law_975 rfl ?_
            refine jr_iconst (v := 1) hX dL_law_977 (by decide) ?_
            refine jr_icmp_ne (tgt := 994) hX dL_law_978 (by decide) (fun c_978 => ?_) (fun c_978 => absurd c_978 (by decide))
            rw [sm_1 (show q_bi 0 2 I k = 0 from if_neg (by rw [e3]; decide))] at kk
            exact jr_forget (fun _ _ h => h) (fun i v h => by rcases i with _ | _ | _ | _ | _ | _ | _ | _ | _ | _ | _ | _ | _ | _ | _ | _ | _ | _ | _ | _ | _ | _ | _ | _ | _ | _ | _ | _ | _ | i <;> first | exact h | exact absurd h (by simp)) (kk)
      · refine jr_iload hX dL_law_874 rfl ?_
        refine jr_aload hX dL_law_876 rfl ?_
        refine jr_iload hX dL_law_878 rfl ?_
        refine jr_aald (t := 15) hX (by decide) kQ rfl (by omega) (pQ k (by omega)) dL_law_880 ?_
        refine jr_iconst (v := 4) hX dL_law_881 (by decide) ?_
        refine jr_iald hX (kR k (by omega)) (show _ = nI 4 from rfl) (by omega) dL_law_882 ?_
        rw [wQ k (by omega) 4 (by decide)]
        refine jr_icmp_ne (tgt := 914) hX dL_law_883 (by decide) (fun c_883 => absurd c_883 (show ¬ ¬ nI p = C (aB 0 k) 4 from fun q => q (by rw [← ep]; exact (hg.1 c_871).1))) (fun c_883 => ?_)
        refine jr_iload hX dL_law_886 rfl ?_
        refine jr_aload hX dL_law_888 rfl ?_
        refine jr_iload hX dL_law_890 rfl ?_
        refine jr_aald (t := 15) hX (by decide) kQ rfl (by omega) (pQ k (by omega)) dL_law_892 ?_
        refine jr_bipush (v := 6) hX dL_law_893 (by decide) ?_
        refine jr_iald hX (kR k (by omega)) (show _ = nI 6 from rfl) (by omega) dL_law_895 ?_
        rw [wQ k (by omega) 6 (by decide)]
        refine jr_icmp_eq (tgt := 916) hX dL_law_896 (by decide) (fun c_896 => ?_) (fun c_896 => ?_)
        · refine jr_aload hX dL_law_916 rfl ?_
          refine jr_iload hX dL_law_918 rfl ?_
          refine jr_aald (t := 15) hX (by decide) kQ rfl (by omega) (pQ k (by omega)) dL_law_920 ?_
          refine jr_iconst (v := 3) hX dL_law_921 (by decide) ?_
          refine jr_iald hX (kR k (by omega)) (show _ = nI 3 from rfl) (by omega) dL_law_922 ?_
          rw [wQ k (by omega) 3 (by decide)]
          refine jr_iconst (v := 2) hX dL_law_923 (by decide) ?_
          refine jr_icmp_ge (tgt := 975) hX dL_law_924 (by decide) (fun c_924 => ?_) (fun c_924 => ?_)
          · refine jr_iload hX dL_law_975 rfl ?_
            refine jr_iconst (v := 1) hX dL_law_977 (by decide) ?_
            refine jr_icmp_ne (tgt := 994) hX dL_law_978 (by decide) (fun c_978 => ?_) (fun c_978 => absurd c_978 (by decide))
            rw [sm_1 (show q_bi 0 2 I k = 0 from if_neg (by rw [e3]; decide))] at kk
            exact jr_forget (fun _ _ h => h) (fun i v h => by rcases i with _ | _ | _ | _ | _ | _ | _ | _ | _ | _ | _ | _ | _ | _ | _ | _ | _ | _ | _ | _ | _ | _ | _ | _ | _ | _ | _ | _ | _ | i <;> first | exact h | exact absurd h (by simp)) (kk)
          · refine jr_iload hX dL_law_927 rfl ?_
            refine jr_aload hX dL_law_929 rfl ?_
            refine jr_iload hX dL_law_931 rfl ?_
            refine jr_aald (t := 15) hX (by decide) kQ rfl (by omega) (pQ k (by omega)) dL_law_933 ?_
            refine jr_iconst (v := 4) hX dL_law_934 (by decide) ?_
            refine jr_iald hX (kR k (by omega)) (show _ = nI 4 from rfl) (by omega) dL_law_935 ?_
            rw [wQ k (by omega) 4 (by decide)]
            refine jr_icmp_eq (tgt := 975) hX dL_law_936 (by decide) (fun c_936 => ?_) (fun c_936 => ?_)
            · refine jr_iload hX dL_law_975 rfl ?_
              refine jr_iconst (v := 1) hX dL_law_977 (by decide) ?_
              refine jr_icmp_ne (tgt := 994) hX dL_law_978 (by decide) (fun c_978 => ?_) (fun c_978 => absurd c_978 (by decide))
              rw [sm_1 (show q_bi 0 2 I k = 0 from if_neg (by rw [e3]; decide))] at kk
              exact jr_forget (fun _ _ h => h) (fun i v h => by rcases i with _ | _ | _ | _ | _ | _ | _ | _ | _ | _ | _ | _ | _ | _ | _ | _ | _ | _ | _ | _ | _ | _ | _ | _ | _ | _ | _ | _ | _ | i <;> first | exact h | exact absurd h (by simp)) (kk)
            · refine jr_aload hX dL_law_939 rfl ?_
              refine jr_iload hX dL_law_941 rfl ?_
              refine jr_aald (t := 15) hX (by decide) kQ rfl (by omega) (pQ k (by omega)) dL_law_943 ?_
              refine jr_iconst (v := 5) hX dL_law_944 (by decide) ?_
              refine jr_iald hX (kR k (by omega)) (show _ = nI 5 from rfl) (by omega) dL_law_945 ?_
              rw [wQ k (by omega) 5 (by decide)]
              refine jr_iload hX dL_law_946 rfl ?_
              refine jr_isub hX dL_law_948 ?_
              refine jr_mabs (y := 0) hX kM_L_187 dL_law_949 rfl ⟨by first | (dsimp only; omega) | omega, by first | (dsimp only; omega) | omega⟩ ?_
              refine jr_aload hX dL_law_952 rfl ?_
              refine jr_iload hX dL_law_954 rfl ?_
              refine jr_aald (t := 15) hX (by decide) kQ rfl (by omega) (pQ k (by omega)) dL_law_956 ?_
              refine jr_iconst (v := 5) hX dL_law_957 (by decide) ?_
              refine jr_iald hX (kR k (by omega)) (show _ = nI 5 from rfl) (by omega) dL_law_958 ?_
              rw [wQ k (by omega) 5 (by decide)]
              refine jr_aload hX dL_law_959 rfl ?_
              refine jr_iload hX dL_law_961 rfl ?_
              refine jr_aald (t := 15) hX (by decide) kQ rfl (by omega) (pQ k (by omega)) dL_law_963 ?_
              refine jr_iconst (v := 4) hX dL_law_964 (by decide) ?_
              refine jr_iald hX (kR k (by omega)) (show _ = nI 4 from rfl) (by omega) dL_law_965 ?_
              rw [wQ k (by omega) 4 (by decide)]
              refine jr_isub hX dL_law_966 ?_
              refine jr_mabs (y := 0) hX kM_L_187 dL_law_967 rfl ⟨by first | (dsimp only; omega) | omega, by first | (dsimp only; omega) | omega⟩ ?_
              refine jr_icmp_lt (tgt := 975) hX dL_law_970 (by decide) (fun c_970 => ?_) (fun c_970 => absurd (show (if 0 ≤ C (aB 0 k) 6 - nI p then C (aB 0 k) 6 - nI p else 0 - (C (aB 0 k) 6 - nI p)) < (if 0 ≤ C (aB 0 k) 6 - C (aB 0 k) 4 then C (aB 0 k) 6 - C (aB 0 k) 4 else 0 - (C (aB 0 k) 6 - C (aB 0 k) 4)) from by rw [← ep]; exact (ck_ab hg (fun q => c_924 (show 2 ≤ C (aB 0 k) 3 by rw [q]; decide))).2 (fun q => c_936 (by rw [← ep]; exact q))) c_970)
              refine jr_iload hX dL_law_975 rfl ?_
              refine jr_iconst (v := 1) hX dL_law_977 (by decide) ?_
              refine jr_icmp_ne (tgt := 994) hX dL_law_978 (by decide) (fun c_978 => ?_) (fun c_978 => absurd c_978 (by decide))
              rw [sm_1 (show q_bi 0 2 I k = 0 from if_neg (by rw [e3]; decide))] at kk
              exact jr_forget (fun _ _ h => h) (fun i v h => by rcases i with _ | _ | _ | _ | _ | _ | _ | _ | _ | _ | _ | _ | _ | _ | _ | _ | _ | _ | _ | _ | _ | _ | _ | _ | _ | _ | _ | _ | _ | i <;> first | exact h | exact absurd h (by simp)) (kk)
        · refine jr_iload hX dL_law_899 rfl ?_
          refine jr_aload hX dL_law_901 rfl ?_
          refine jr_iload hX dL_law_903 rfl ?_
          refine jr_aald (t := 15) hX (by decide) kQ rfl (by omega) (pQ k (by omega)) dL_law_905 ?_
          refine jr_bipush (v := 6) hX dL_law_906 (by decide) ?_
          refine jr_iald hX (kR k (by omega)) (show _ = nI 6 from rfl) (by omega) dL_law_908 ?_
          rw [wQ k (by omega) 6 (by decide)]
          refine jr_iconst (v := 1) hX dL_law_909 (by decide) ?_
          refine jr_isub hX dL_law_910 ?_
          refine jr_icmp_eq (tgt := 916) hX dL_law_911 (by decide) (fun c_911 => ?_) (fun c_911 => absurd (show 0 = C (aB 0 k) 7 - 1 from by rw [← l7]; exact ((hg.1 c_871).2).resolve_left (fun q => c_896 (by rw [← l7]; exact q))) c_911)
          refine jr_aload hX dL_law_916 rfl ?_
          refine jr_iload hX dL_law_918 rfl ?_
          refine jr_aald (t := 15) hX (by decide) kQ rfl (by omega) (pQ k (by omega)) dL_law_920 ?_
          refine jr_iconst (v := 3) hX dL_law_921 (by decide) ?_
          refine jr_iald hX (kR k (by omega)) (show _ = nI 3 from rfl) (by omega) dL_law_922 ?_
          rw [wQ k (by omega) 3 (by decide)]
          refine jr_iconst (v := 2) hX dL_law_923 (by decide) ?_
          refine jr_icmp_ge (tgt := 975) hX dL_law_924 (by decide) (fun c_924 => ?_) (fun c_924 => ?_)
          · refine jr_iload hX dL_law_975 rfl ?_
            refine jr_iconst (v := 1) hX dL_law_977 (by decide) ?_
            refine jr_icmp_ne (tgt := 994) hX dL_law_978 (by decide) (fun c_978 => ?_) (fun c_978 => absurd c_978 (by decide))
            rw [sm_1 (show q_bi 0 2 I k = 0 from if_neg (by rw [e3]; decide))] at kk
            exact jr_forget (fun _ _ h => h) (fun i v h => by rcases i with _ | _ | _ | _ | _ | _ | _ | _ | _ | _ | _ | _ | _ | _ | _ | _ | _ | _ | _ | _ | _ | _ | _ | _ | _ | _ | _ | _ | _ | i <;> first | exact h | exact absurd h (by simp)) (kk)
          · refine jr_iload hX dL_law_927 rfl ?_
            refine jr_aload hX dL_law_929 rfl ?_
            refine jr_iload hX dL_law_931 rfl ?_
            refine jr_aald (t := 15) hX (by decide) kQ rfl (by omega) (pQ k (by omega)) dL_law_933 ?_
            refine jr_iconst (v := 4) hX dL_law_934 (by decide) ?_
            refine jr_iald hX (kR k (by omega)) (show _ = nI 4 from rfl) (by omega) dL_law_935 ?_
            rw [wQ k (by omega) 4 (by decide)]
            refine jr_icmp_eq (tgt := 975) hX dL_law_936 (by decide) (fun c_936 => ?_) (fun c_936 => ?_)
            · refine jr_iload hX dL_law_975 rfl ?_
              refine jr_iconst (v := 1) hX dL_law_977 (by decide) ?_
              refine jr_icmp_ne (tgt := 994) hX dL_law_978 (by decide) (fun c_978 => ?_) (fun c_978 => absurd c_978 (by decide))
              rw [sm_1 (show q_bi 0 2 I k = 0 from if_neg (by rw [e3]; decide))] at kk
              exact jr_forget (fun _ _ h => h) (fun i v h => by rcases i with _ | _ | _ | _ | _ | _ | _ | _ | _ | _ | _ | _ | _ | _ | _ | _ | _ | _ | _ | _ | _ | _ | _ | _ | _ | _ | _ | _ | _ | i <;> first | exact h | exact absurd h (by simp)) (kk)
            · refine jr_aload hX dL_law_939 rfl ?_
              refine jr_iload hX dL_law_941 rfl ?_
              refine jr_aald (t := 15) hX (by decide) kQ rfl (by omega) (pQ k (by omega)) dL_law_943 ?_
              refine jr_iconst (v := 5) hX dL_law_944 (by decide) ?_
              refine jr_iald hX (kR k (by omega)) (show _ = nI 5 from rfl) (by omega) dL_law_945 ?_
              rw [wQ k (by omega) 5 (by decide)]
              refine jr_iload hX dL_law_946 rfl ?_
              refine jr_isub hX dL_law_948 ?_
              refine jr_mabs (y := 0) hX kM_L_187 dL_law_949 rfl ⟨by first | (dsimp only; omega) | omega, by first | (dsimp only; omega) | omega⟩ ?_
              refine jr_aload hX dL_law_952 rfl ?_
              refine jr_iload hX dL_law_954 rfl ?_
              refine jr_aald (t := 15) hX (by decide) kQ rfl (by omega) (pQ k (by omega)) dL_law_956 ?_
              refine jr_iconst (v := 5) hX dL_law_957 (by decide) ?_
              refine jr_iald hX (kR k (by omega)) (show _ = nI 5 from rfl) (by omega) dL_law_958 ?_
              rw [wQ k (by omega) 5 (by decide)]
              refine jr_aload hX dL_law_959 rfl ?_
              refine jr_iload hX dL_law_961 rfl ?_
              refine jr_aald (t := 15) hX (by decide) kQ rfl (by omega) (pQ k (by omega)) dL_law_963 ?_
              refine jr_iconst (v := 4) hX dL_law_964 (by decide) ?_
              refine jr_iald hX (kR k (by omega)) (show _ = nI 4 from rfl) (by omega) dL_law_965 ?_
              rw [wQ k (by omega) 4 (by decide)]
              refine jr_isub hX dL_law_966 ?_
              refine jr_mabs (y := 0) hX kM_L_187 dL_law_967 rfl ⟨by first | (dsimp only; omega) | omega, by first | (dsimp only; omega) | omega⟩ ?_
              refine jr_icmp_lt (tgt := 975) hX dL_law_970 (by decide) (fun c_970 => ?_) (fun c_970 => absurd (show (if 0 ≤ C (aB 0 k) 6 - nI p then C (aB 0 k) 6 - nI p else 0 - (C (aB 0 k) 6 - nI p)) < (if 0 ≤ C (aB 0 k) 6 - C (aB 0 k) 4 then C (aB 0 k) 6 - C (aB 0 k) 4 else 0 - (C (aB 0 k) 6 - C (aB 0 k) 4)) from by rw [← ep]; exact (ck_ab hg (fun q => c_924 (show 2 ≤ C (aB 0 k) 3 by rw [q]; decide))).2 (fun q => c_936 (by rw [← ep]; exact q))) c_970)
              refine jr_iload hX dL_law_975 rfl ?_
              refine jr_iconst (v := 1) hX dL_law_977 (by decide) ?_
              refine jr_icmp_ne (tgt := 994) hX dL_law_978 (by decide) (fun c_978 => ?_) (fun c_978 => absurd c_978 (by decide))
              rw [sm_1 (show q_bi 0 2 I k = 0 from if_neg (by rw [e3]; decide))] at kk
              exact jr_forget (fun _ _ h => h) (fun i v h => by rcases i with _ | _ | _ | _ | _ | _ | _ | _ | _ | _ | _ | _ | _ | _ | _ | _ | _ | _ | _ | _ | _ | _ | _ | _ | _ | _ | _ | _ | _ | i <;> first | exact h | exact absurd h (by simp)) (kk)
set_option maxHeartbeats 4000000 in
set_option maxRecDepth 100000 in
theorem lw_boat_1 {X : jj_X} {D : jj_D} {nm : String} {tb : List ExceptionTableEntry} {Q : State → Prop} (hX : jj_Cx X D cL_law RL 29 (some .boolean) nm { frames := 12, cells := 600074, slots := 7301550, locals := 458 } tb) (hSt : jj_St X D) {n cs sl : Nat} {K : jj_K} {I : jj_I} {P : jj_P} {G : jj_G} {A : Nat → Nat} {H M B N t t0 time q d who nA nO nC : Nat} {k : Nat} {x : Int32} {C : jj_I} (hv : lv A H M B N n t K I P) (hk : k < B) (hc3 : ¬ C (aB 0 k) 3 = 3) (e3 : I (aB 0 k) 3 = 1) (DY : dayB H k C I) (hcs : cs + 100 ≤ 600074) (hsl : sl + 200 ≤ 7301550) (kQ : K q = some (15, B)) (pQ : ∀ j, j < B → P q j = some (q + 1 + j)) (kR : ∀ j, j < B → K (q + 1 + j) = some (10, 12)) (wQ : ∀ j, j < B → ∀ w, w < 12 → I (q + 1 + j) w = q_bf j C w) (kk : jj_J X D 29 cs sl Q n K I P G 994 [some (.ref (0)), some (.ref (1)), some (.ref (A 0)), some (.int (nI H)), some (.int (nI B)), some (.int (nI M)), some (.int (nI time)), some (.int (x)), some (.ref (q)), some (.ref (nA)), some (.int (nI who)), some (.ref (nO)), some (.ref (nC)), some (.int (sm (g_go B N C) M)), some (.int (g_cs M C)), some (.int (nI N)), some (.int (sm (s_op C) N)), some (.int (nI d)), some (.int (C (aWm 0) (d % 40))), some (.int (sm (q_bi 0 1 C) B)), some (.int (sm (q_bi 0 3 (f_pd 0 H B N d C)) B - sm (q_bi 0 3 C) B)), some (.int (sm (g_lo C (f_pd 0 H B N d C)) k)), some (.int (sm (g_sk C (f_pd 0 H B N d C)) k)), some (.int (sm (q_bi 0 2 I) (k + 1))), some (.int (nI k)), none, none, none, none] []) :
    jj_J X D 29 (cs) (sl) Q (n) (K) (I) (P) G 650 [some (.ref (0)), some (.ref (1)), some (.ref (A 0)), some (.int (nI H)), some (.int (nI B)), some (.int (nI M)), some (.int (nI time)), some (.int (x)), some (.ref (q)), some (.ref (nA)), some (.int (nI who)), some (.ref (nO)), some (.ref (nC)), some (.int (sm (g_go B N C) M)), some (.int (g_cs M C)), some (.int (nI N)), some (.int (sm (s_op C) N)), some (.int (nI d)), some (.int (C (aWm 0) (d % 40))), some (.int (sm (q_bi 0 1 C) B)), some (.int (sm (q_bi 0 3 (f_pd 0 H B N d C)) B - sm (q_bi 0 3 C) B)), some (.int (sm (g_lo C (f_pd 0 H B N d C)) k)), some (.int (sm (g_sk C (f_pd 0 H B N d C)) k)), some (.int (sm (q_bi 0 2 I) k)), some (.int (nI k)), some (.int (I (aB 0 k) 3)), some (.int (I (aB 0 k) 4)), some (.int (I (aB 0 k) 7)), none] [] := by
  obtain ⟨hly, hsy, hms, htc, hdz, hH, hM, hB1, hB9, how⟩ := id hv
  have g0 := sy_lt hsy (t := 0) sv_0
  have n3 : ¬ I (aB 0 k) 3 = 3 := by rw [e3]; decide
  obtain ⟨p, hp, ep⟩ := (htc.1.2.2.2.2.1 k hk).2.2.1 n3
  obtain ⟨hu, hh, ehu, e6, hd⟩ := DY.2 hc3
  rcases hd with ⟨w, -⟩ | ⟨-, h1, hlw, hg, hc, hull⟩
  · exact absurd w n3
  have hg1 : ¬ C (aB 0 k) 1 < I (aB 0 k) 1 := by
    rcases hull with ⟨w, -⟩ | ⟨w0, w, -⟩
    · rw [w, ehu]; exact Int32.lt_irrefl
    · rw [w, ehu, sn_il (by omega) (by omega)]; omega
  have hg2 : ¬ I (aB 0 k) 1 < C (aB 0 k) 1 - 1 := by
    rcases hull with ⟨w, -⟩ | ⟨w0, w, -⟩
    · rw [w, ehu, jm_sub1 hh.1, sn_il (by omega) (by omega)]; omega
    · rw [w, ehu, jm_sub1 hh.1]; exact Int32.lt_irrefl
  have hA1 : I (aB 0 k) 1 = C (aB 0 k) 1 := by
    rcases hull with ⟨w, -⟩ | ⟨-, -, w, -⟩
    · rw [w, ehu]
    · exact absurd e3 w
  have l7 : I (aB 0 k) 7 = 0 := hlw.1 (by rw [e3]; decide)
  rw [e3, ep, l7]
  refine jr_iload hX dL_law_650 rfl ?_
  refine jr_iload hX dL_law_652 rfl ?_
  refine jr_iconst (v := 2) hX dL_law_654 (by decide) ?_
  refine jr_icmp_ne (tgt := 662) hX dL_law_655 (by decide) (fun c_655 => ?_) (fun c_655 => absurd c_655 (by decide))
  refine jr_iconst (v := 0) hX dL_law_662 (by decide) ?_
  refine jr_iadd hX dL_law_663 ?_
  refine jr_istore hX dL_law_664 rfl ?_
  refine jr_iload hX dL_law_666 rfl ?_
  refine jr_if_ne (tgt := 687) hX dL_law_668 (by decide) (fun c_668 => ?_) (fun c_668 => absurd c_668 (by decide))
  refine jr_iconst (v := 0) hX dL_law_687 (by decide) ?_
  refine jr_istore hX dL_law_688 rfl ?_
  refine jr_iload hX dL_law_690 rfl ?_
  refine jr_iconst (v := 2) hX dL_law_692 (by decide) ?_
  refine jr_icmp_ge (tgt := 724) hX dL_law_693 (by decide) (fun c_693 => absurd c_693 (by decide)) (fun c_693 => ?_)
  refine jr_aload_n hX dL_law_696 rfl ?_
  refine jr_iload hX dL_law_697 rfl ?_
  refine jr_iconst (v := 1) hX dL_law_699 (by decide) ?_
  refine jr_ret (jr_runV hX hSt kM_L_158 (c_boat_ok (jj_fl hX) hly htc.1 (b := k) (t := 1) (by assumption) (by decide)) rfl rfl (ly_kI hly) ⟨_, _, rfl, by decide⟩ dL_law_700 rfl ⟨by simp only [jj_N]; omega, by simp only [jj_N]; omega⟩ rfl) ?_
  refine jr_aload hX dL_law_703 rfl ?_
  refine jr_iload hX dL_law_705 rfl ?_
  refine jr_aald (t := 15) hX (by decide) kQ rfl (by omega) (pQ k (by omega)) dL_law_707 ?_
  refine jr_iconst (v := 1) hX dL_law_708 (by decide) ?_
  refine jr_iald hX (kR k (by omega)) (show _ = nI 1 from rfl) (by omega) dL_law_709 ?_
  rw [wQ k (by omega) 1 (by decide)]
  refine jr_iload hX dL_law_710 rfl ?_
  refine jr_if_eq (tgt := 719) hX dL_law_712 (by decide) (fun c_712 => ?_) (fun c_712 => absurd rfl c_712)
  refine jr_iconst (v := 0) hX dL_law_719 (by decide) ?_
  refine jr_isub hX dL_law_720 ?_
  refine jr_icmp_ne (tgt := 796) hX dL_law_721 (by decide) (fun c_721 => absurd c_721 (show ¬ ¬ _ = _ from fun q => q (show I (aB 0 k) 1 = C (aB 0 k) 1 - 0 by rw [Int32.sub_zero]; exact hA1))) (fun c_721 => ?_)
  refine jr_aload_n hX dL_law_724 rfl ?_
  refine jr_iload hX dL_law_725 rfl ?_
  refine jr_iconst (v := 1) hX dL_law_727 (by decide) ?_
  refine jr_ret (jr_runV hX hSt kM_L_158 (c_boat_ok (jj_fl hX) hly htc.1 (b := k) (t := 1) (by assumption) (by decide)) rfl rfl (ly_kI hly) ⟨_, _, rfl, by decide⟩ dL_law_728 rfl ⟨by simp only [jj_N]; omega, by simp only [jj_N]; omega⟩ rfl) ?_
  refine jr_aload hX dL_law_731 rfl ?_
  refine jr_iload hX dL_law_733 rfl ?_
  refine jr_aald (t := 15) hX (by decide) kQ rfl (by omega) (pQ k (by omega)) dL_law_735 ?_
  refine jr_iconst (v := 1) hX dL_law_736 (by decide) ?_
  refine jr_iald hX (kR k (by omega)) (show _ = nI 1 from rfl) (by omega) dL_law_737 ?_
  rw [wQ k (by omega) 1 (by decide)]
  refine jr_icmp_gt (tgt := 796) hX dL_law_738 (by decide) (fun c_738 => absurd c_738 (show ¬ C (aB 0 k) 1 < I (aB 0 k) 1 from hg1)) (fun c_738 => ?_)
  refine jr_aload_n hX dL_law_741 rfl ?_
  refine jr_iload hX dL_law_742 rfl ?_
  refine jr_iconst (v := 1) hX dL_law_744 (by decide) ?_
  refine jr_ret (jr_runV hX hSt kM_L_158 (c_boat_ok (jj_fl hX) hly htc.1 (b := k) (t := 1) (by assumption) (by decide)) rfl rfl (ly_kI hly) ⟨_, _, rfl, by decide⟩ dL_law_745 rfl ⟨by simp only [jj_N]; omega, by simp only [jj_N]; omega⟩ rfl) ?_
  refine jr_aload hX dL_law_748 rfl ?_
  refine jr_iload hX dL_law_750 rfl ?_
  refine jr_aald (t := 15) hX (by decide) kQ rfl (by omega) (pQ k (by omega)) dL_law_752 ?_
  refine jr_iconst (v := 1) hX dL_law_753 (by decide) ?_
  refine jr_iald hX (kR k (by omega)) (show _ = nI 1 from rfl) (by omega) dL_law_754 ?_
  rw [wQ k (by omega) 1 (by decide)]
  refine jr_iconst (v := 1) hX dL_law_755 (by decide) ?_
  refine jr_isub hX dL_law_756 ?_
  refine jr_icmp_lt (tgt := 796) hX dL_law_757 (by decide) (fun c_757 => absurd c_757 (show ¬ I (aB 0 k) 1 < C (aB 0 k) 1 - 1 from hg2)) (fun c_757 => ?_)
  refine jr_aload_n hX dL_law_760 rfl ?_
  refine jr_iload hX dL_law_761 rfl ?_
  refine jr_bipush (v := 7) hX dL_law_763 (by decide) ?_
  refine jr_ret (jr_runV hX hSt kM_L_158 (c_boat_ok (jj_fl hX) hly htc.1 (b := k) (t := 7) (by assumption) (by decide)) rfl rfl (ly_kI hly) ⟨_, _, rfl, by decide⟩ dL_law_765 rfl ⟨by simp only [jj_N]; omega, by simp only [jj_N]; omega⟩ rfl) ?_
  refine jr_aload hX dL_law_768 rfl ?_
  refine jr_iload hX dL_law_770 rfl ?_
  refine jr_aald (t := 15) hX (by decide) kQ rfl (by omega) (pQ k (by omega)) dL_law_772 ?_
  refine jr_bipush (v := 7) hX dL_law_773 (by decide) ?_
  refine jr_iald hX (kR k (by omega)) (show _ = nI 7 from rfl) (by omega) dL_law_775 ?_
  rw [wQ k (by omega) 7 (by decide)]
  refine jr_icmp_ne (tgt := 796) hX dL_law_776 (by decide) (fun c_776 => absurd c_776 (show ¬ ¬ _ = _ from fun q => q (show sm (I (aBc 0 k)) 4 = sm (C (aBc 0 k)) 4 by rw [hc]))) (fun c_776 => ?_)
  refine jr_aload_n hX dL_law_779 rfl ?_
  refine jr_iload hX dL_law_780 rfl ?_
  refine jr_iconst (v := 5) hX dL_law_782 (by decide) ?_
  refine jr_ret (jr_runV hX hSt kM_L_158 (c_boat_ok (jj_fl hX) hly htc.1 (b := k) (t := 5) (by assumption) (by decide)) rfl rfl (ly_kI hly) ⟨_, _, rfl, by decide⟩ dL_law_783 rfl ⟨by simp only [jj_N]; omega, by simp only [jj_N]; omega⟩ rfl) ?_
  refine jr_aload hX dL_law_786 rfl ?_
  refine jr_iload hX dL_law_788 rfl ?_
  refine jr_aald (t := 15) hX (by decide) kQ rfl (by omega) (pQ k (by omega)) dL_law_790 ?_
  refine jr_iconst (v := 5) hX dL_law_791 (by decide) ?_
  refine jr_iald hX (kR k (by omega)) (show _ = nI 5 from rfl) (by omega) dL_law_792 ?_
  rw [wQ k (by omega) 5 (by decide)]
  refine jr_icmp_eq (tgt := 798) hX dL_law_793 (by decide) (fun c_793 => ?_) (fun c_793 => absurd (show I (aB 0 k) 6 = C (aB 0 k) 6 from e6) c_793)
  refine jr_iload hX dL_law_798 rfl ?_
  refine jr_if_lt (tgt := 833) hX dL_law_800 (by decide) (fun c_800 => absurd c_800 (by decide)) (fun c_800 => ?_)
  refine jr_iload hX dL_law_803 rfl ?_
  refine jr_iconst (v := 2) hX dL_law_805 (by decide) ?_
  refine jr_icmp_eq (tgt := 814) hX dL_law_806 (by decide) (fun c_806 => absurd c_806 (by decide)) (fun c_806 => ?_)
  refine jr_iload hX dL_law_809 rfl ?_
  refine jr_if_ne (tgt := 833) hX dL_law_811 (by decide) (fun c_811 => absurd c_811 (fun q => q rfl)) (fun c_811 => ?_)
  refine jr_iload hX dL_law_814 rfl ?_
  refine jr_iconst (v := 2) hX dL_law_816 (by decide) ?_
  refine jr_icmp_ne (tgt := 835) hX dL_law_817 (by decide) (fun c_817 => ?_) (fun c_817 => absurd c_817 (by decide))
  refine jr_aload hX dL_law_835 rfl ?_
  refine jr_iload hX dL_law_837 rfl ?_
  refine jr_aald (t := 15) hX (by decide) kQ rfl (by omega) (pQ k (by omega)) dL_law_839 ?_
  refine jr_iconst (v := 3) hX dL_law_840 (by decide) ?_
  refine jr_iald hX (kR k (by omega)) (show _ = nI 3 from rfl) (by omega) dL_law_841 ?_
  rw [wQ k (by omega) 3 (by decide)]
  refine jr_iconst (v := 2) hX dL_law_842 (by decide) ?_
  refine jr_icmp_ge (tgt := 863) hX dL_law_843 (by decide) (fun c_843 => ?_) (fun c_843 => ?_)
  · refine jr_aload hX dL_law_863 rfl ?_
    refine jr_iload hX dL_law_865 rfl ?_
    refine jr_aald (t := 15) hX (by decide) kQ rfl (by omega) (pQ k (by omega)) dL_law_867 ?_
    refine jr_iconst (v := 3) hX dL_law_868 (by decide) ?_
    refine jr_iald hX (kR k (by omega)) (show _ = nI 3 from rfl) (by omega) dL_law_869 ?_
    rw [wQ k (by omega) 3 (by decide)]
    refine jr_iconst (v := 2) hX dL_law_870 (by decide) ?_
    refine jr_icmp_ne (tgt := 916) hX dL_law_871 (by decide) (fun c_871 => ?_) (fun c_871 => ?_)
    · refine jr_aload hX dL_law_916 rfl ?_
      refine jr_iload hX dL_law_918 rfl ?_
      refine jr_aald (t := 15) hX (by decide) kQ rfl (by omega) (pQ k (by omega)) dL_law_920 ?_
      refine jr_iconst (v := 3) hX dL_law_921 (by decide) ?_
      refine jr_iald hX (kR k (by omega)) (show _ = nI 3 from rfl) (by omega) dL_law_922 ?_
      rw [wQ k (by omega) 3 (by decide)]
      refine jr_iconst (v := 2) hX dL_law_923 (by decide) ?_
      refine jr_icmp_ge (tgt := 975) hX dL_law_924 (by decide) (fun c_924 => ?_) (fun c_924 => ?_)
      · refine jr_iload hX dL_law_975 rfl ?_
        refine jr_iconst (v := 1) hX dL_law_977 (by decide) ?_
        refine jr_icmp_ne (tgt := 994) hX dL_law_978 (by decide) (fun c_978 => absurd c_978 (fun q => q rfl)) (fun c_978 => ?_)
        refine jr_aload hX dL_law_981 rfl ?_
        refine jr_iload hX dL_law_983 rfl ?_
        refine jr_aald (t := 15) hX (by decide) kQ rfl (by omega) (pQ k (by omega)) dL_law_985 ?_
        refine jr_iconst (v := 3) hX dL_law_986 (by decide) ?_
        refine jr_iald hX (kR k (by omega)) (show _ = nI 3 from rfl) (by omega) dL_law_987 ?_
        rw [wQ k (by omega) 3 (by decide)]
        refine jr_iconst (v := 1) hX dL_law_988 (by decide) ?_
        refine jr_icmp_eq (tgt := 994) hX dL_law_989 (by decide) (fun c_989 => ?_) (fun c_989 => absurd (show C (aB 0 k) 3 = 1 from h1 e3) c_989)
        rw [sm_1 (show q_bi 0 2 I k = 0 from if_neg (by rw [e3]; decide))] at kk
        exact jr_forget (fun _ _ h => h) (fun i v h => by rcases i with _ | _ | _ | _ | _ | _ | _ | _ | _ | _ | _ | _ | _ | _ | _ | _ | _ | _ | _ | _ | _ | _ | _ | _ | _ | _ | _ | _ | _ | i <;> first | exact h | exact absurd h (by simp)) (kk)
      · refine jr_iload hX dL_law_927 rfl ?_
        refine jr_aload hX dL_law_929 rfl ?_
        refine jr_iload hX dL_law_931 rfl ?_
        refine jr_aald (t := 15) hX (by decide) kQ rfl (by omega) (pQ k (by omega)) dL_law_933 ?_
        refine jr_iconst (v := 4) hX dL_law_934 (by decide) ?_
        refine jr_iald hX (kR k (by omega)) (show _ = nI 4 from rfl) (by omega) dL_law_935 ?_
        rw [wQ k (by omega) 4 (by decide)]
        refine jr_icmp_eq (tgt := 975) hX dL_law_936 (by decide) (fun c_936 => ?_) (fun c_936 => ?_)
        · refine jr_iload hX dL_law_975 rfl ?_
          refine jr_iconst (v := 1) hX dL_law_977 (by decide) ?_
          refine jr_icmp_ne (tgt := 994) hX dL_law_978 (by decide) (fun c_978 => absurd c_978 (fun q => q rfl)) (fun c_978 => ?_)
          refine jr_aload hX dL_law_981 rfl ?_
          refine jr_iload hX dL_law_983 rfl ?_
          refine jr_aald (t := 15) hX (by decide) kQ rfl (by omega) (pQ k (by omega)) dL_law_985 ?_
          refine jr_iconst (v := 3) hX dL_law_986 (by decide) ?_
          refine jr_iald hX (kR k (by omega)) (show _ = nI 3 from rfl) (by omega) dL_law_987 ?_
          rw [wQ k (by omega) 3 (by decide)]
          refine jr_iconst (v := 1) hX dL_law_988 (by decide) ?_
          refine jr_icmp_eq (tgt := 994) hX dL_law_989 (by decide) (fun c_989 => ?_) (fun c_989 => absurd (show C (aB 0 k) 3 = 1 from h1 e3) c_989)
          rw [sm_1 (show q_bi 0 2 I k = 0 from if_neg (by rw [e3]; decide))] at kk
          exact jr_forget (fun _ _ h => h) (fun i v h => by rcases i with _ | _ | _ | _ | _ | _ | _ | _ | _ | _ | _ | _ | _ | _ | _ | _ | _ | _ | _ | _ | _ | _ | _ | _ | _ | _ | _ | _ | _ | i <;> first | exact h | exact absurd h (by simp)) (kk)
        · refine jr_aload hX dL_law_939 rfl ?_
          refine jr_iload hX dL_law_941 rfl ?_
          refine jr_aald (t := 15) hX (by decide) kQ rfl (by omega) (pQ k (by omega)) dL_law_943 ?_
          refine jr_iconst (v := 5) hX dL_law_944 (by decide) ?_
          refine jr_iald hX (kR k (by omega)) (show _ = nI 5 from rfl) (by omega) dL_law_945 ?_
          rw [wQ k (by omega) 5 (by decide)]
          refine jr_iload hX dL_law_946 rfl ?_
          refine jr_isub hX dL_law_948 ?_
          refine jr_mabs (y := 0) hX kM_L_187 dL_law_949 rfl ⟨by first | (dsimp only; omega) | omega, by first | (dsimp only; omega) | omega⟩ ?_
          refine jr_aload hX dL_law_952 rfl ?_
          refine jr_iload hX dL_law_954 rfl ?_
          refine jr_aald (t := 15) hX (by decide) kQ rfl (by omega) (pQ k (by omega)) dL_law_956 ?_
          refine jr_iconst (v := 5) hX dL_law_957 (by decide) ?_
          refine jr_iald hX (kR k (by omega)) (show _ = nI 5 from rfl) (by omega) dL_law_958 ?_
          rw [wQ k (by omega) 5 (by decide)]
          refine jr_aload hX dL_law_959 rfl ?_
          refine jr_iload hX dL_law_961 rfl ?_
          refine jr_aald (t := 15) hX (by decide) kQ rfl (by omega) (pQ k (by omega)) dL_law_963 ?_
          refine jr_iconst (v := 4) hX dL_law_964 (by decide) ?_
          refine jr_iald hX (kR k (by omega)) (show _ = nI 4 from rfl) (by omega) dL_law_965 ?_
          rw [wQ k (by omega) 4 (by decide)]
          refine jr_isub hX dL_law_966 ?_
          refine jr_mabs (y := 0) hX kM_L_187 dL_law_967 rfl ⟨by first | (dsimp only; omega) | omega, by first | (dsimp only; omega) | omega⟩ ?_
          refine jr_icmp_lt (tgt := 975) hX dL_law_970 (by decide) (fun c_970 => ?_) (fun c_970 => absurd (show (if 0 ≤ C (aB 0 k) 6 - nI p then C (aB 0 k) 6 - nI p else 0 - (C (aB 0 k) 6 - nI p)) < (if 0 ≤ C (aB 0 k) 6 - C (aB 0 k) 4 then C (aB 0 k) 6 - C (aB 0 k) 4 else 0 - (C (aB 0 k) 6 - C (aB 0 k) 4)) from by rw [← ep]; exact (ck_ab hg (fun q => c_924 (show 2 ≤ C (aB 0 k) 3 by rw [q]; decide))).2 (fun q => c_936 (by rw [← ep]; exact q))) c_970)
          refine jr_iload hX dL_law_975 rfl ?_
          refine jr_iconst (v := 1) hX dL_law_977 (by decide) ?_
          refine jr_icmp_ne (tgt := 994) hX dL_law_978 (by decide) (fun c_978 => absurd c_978 (fun q => q rfl)) (fun c_978 => ?_)
          refine jr_aload hX dL_law_981 rfl ?_
          refine jr_iload hX dL_law_983 rfl ?_
          refine jr_aald (t := 15) hX (by decide) kQ rfl (by omega) (pQ k (by omega)) dL_law_985 ?_
          refine jr_iconst (v := 3) hX dL_law_986 (by decide) ?_
          refine jr_iald hX (kR k (by omega)) (show _ = nI 3 from rfl) (by omega) dL_law_987 ?_
          rw [wQ k (by omega) 3 (by decide)]
          refine jr_iconst (v := 1) hX dL_law_988 (by decide) ?_
          refine jr_icmp_eq (tgt := 994) hX dL_law_989 (by decide) (fun c_989 => ?_) (fun c_989 => absurd (show C (aB 0 k) 3 = 1 from h1 e3) c_989)
          rw [sm_1 (show q_bi 0 2 I k = 0 from if_neg (by rw [e3]; decide))] at kk
          exact jr_forget (fun _ _ h => h) (fun i v h => by rcases i with _ | _ | _ | _ | _ | _ | _ | _ | _ | _ | _ | _ | _ | _ | _ | _ | _ | _ | _ | _ | _ | _ | _ | _ | _ | _ | _ | _ | _ | i <;> first | exact h | exact absurd h (by simp)) (kk)
    · refine jr_iload hX dL_law_874 rfl ?_
      refine jr_aload hX dL_law_876 rfl ?_
      refine jr_iload hX dL_law_878 rfl ?_
      refine jr_aald (t := 15) hX (by decide) kQ rfl (by omega) (pQ k (by omega)) dL_law_880 ?_
      refine jr_iconst (v := 4) hX dL_law_881 (by decide) ?_
      refine jr_iald hX (kR k (by omega)) (show _ = nI 4 from rfl) (by omega) dL_law_882 ?_
      rw [wQ k (by omega) 4 (by decide)]
      refine jr_icmp_ne (tgt := 914) hX dL_law_883 (by decide) (fun c_883 => absurd c_883 (show ¬ ¬ nI p = C (aB 0 k) 4 from fun q => q (by rw [← ep]; exact (hg.1 c_871).1))) (fun c_883 => ?_)
      refine jr_iload hX dL_law_886 rfl ?_
      refine jr_aload hX dL_law_888 rfl ?_
      refine jr_iload hX dL_law_890 rfl ?_
      refine jr_aald (t := 15) hX (by decide) kQ rfl (by omega) (pQ k (by omega)) dL_law_892 ?_
      refine jr_bipush (v := 6) hX dL_law_893 (by decide) ?_
      refine jr_iald hX (kR k (by omega)) (show _ = nI 6 from rfl) (by omega) dL_law_895 ?_
      rw [wQ k (by omega) 6 (by decide)]
      refine jr_icmp_eq (tgt := 916) hX dL_law_896 (by decide) (fun c_896 => ?_) (fun c_896 => ?_)
      · refine jr_aload hX dL_law_916 rfl ?_
        refine jr_iload hX dL_law_918 rfl ?_
        refine jr_aald (t := 15) hX (by decide) kQ rfl (by omega) (pQ k (by omega)) dL_law_920 ?_
        refine jr_iconst (v := 3) hX dL_law_921 (by decide) ?_
        refine jr_iald hX (kR k (by omega)) (show _ = nI 3 from rfl) (by omega) dL_law_922 ?_
        rw [wQ k (by omega) 3 (by decide)]
        refine jr_iconst (v := 2) hX dL_law_923 (by decide) ?_
        refine jr_icmp_ge (tgt := 975) hX dL_law_924 (by decide) (fun c_924 => ?_) (fun c_924 => ?_)
        · refine jr_iload hX dL_law_975 rfl ?_
          refine jr_iconst (v := 1) hX dL_law_977 (by decide) ?_
          refine jr_icmp_ne (tgt := 994) hX dL_law_978 (by decide) (fun c_978 => absurd c_978 (fun q => q rfl)) (fun c_978 => ?_)
          refine jr_aload hX dL_law_981 rfl ?_
          refine jr_iload hX dL_law_983 rfl ?_
          refine jr_aald (t := 15) hX (by decide) kQ rfl (by omega) (pQ k (by omega)) dL_law_985 ?_
          refine jr_iconst (v := 3) hX dL_law_986 (by decide) ?_
          refine jr_iald hX (kR k (by omega)) (show _ = nI 3 from rfl) (by omega) dL_law_987 ?_
          rw [wQ k (by omega) 3 (by decide)]
          refine jr_iconst (v := 1) hX dL_law_988 (by decide) ?_
          refine jr_icmp_eq (tgt := 994) hX dL_law_989 (by decide) (fun c_989 => ?_) (fun c_989 => absurd (show C (aB 0 k) 3 = 1 from h1 e3) c_989)
          rw [sm_1 (show q_bi 0 2 I k = 0 from if_neg (by rw [e3]; decide))] at kk
          exact jr_forget (fun _ _ h => h) (fun i v h => by rcases i with _ | _ | _ | _ | _ | _ | _ | _ | _ | _ | _ | _ | _ | _ | _ | _ | _ | _ | _ | _ | _ | _ | _ | _ | _ | _ | _ | _ | _ | i <;> first | exact h | exact absurd h (by simp)) (kk)
        · refine jr_iload hX dL_law_927 rfl ?_
          refine jr_aload hX dL_law_929 rfl ?_
          refine jr_iload hX dL_law_931 rfl ?_
          refine jr_aald (t := 15) hX (by decide) kQ rfl (by omega) (pQ k (by omega)) dL_law_933 ?_
          refine jr_iconst (v := 4) hX dL_law_934 (by decide) ?_
          refine jr_iald hX (kR k (by omega)) (show _ = nI 4 from rfl) (by omega) dL_law_935 ?_
          rw [wQ k (by omega) 4 (by decide)]
          refine jr_icmp_eq (tgt := 975) hX dL_law_936 (by decide) (fun c_936 => ?_) (fun c_936 => ?_)
          · refine jr_iload hX dL_law_975 rfl ?_
            refine jr_iconst (v := 1) hX dL_law_977 (by decide) ?_
            refine jr_icmp_ne (tgt := 994) hX dL_law_978 (by decide) (fun c_978 => absurd c_978 (fun q => q rfl)) (fun c_978 => ?_)
            refine jr_aload hX dL_law_981 rfl ?_
            refine jr_iload hX dL_law_983 rfl ?_
            refine jr_aald (t := 15) hX (by decide) kQ rfl (by omega) (pQ k (by omega)) dL_law_985 ?_
            refine jr_iconst (v := 3) hX dL_law_986 (by decide) ?_
            refine jr_iald hX (kR k (by omega)) (show _ = nI 3 from rfl) (by omega) dL_law_987 ?_
            rw [wQ k (by omega) 3 (by decide)]
            refine jr_iconst (v := 1) hX dL_law_988 (by decide) ?_
            refine jr_icmp_eq (tgt := 994) hX dL_law_989 (by decide) (fun c_989 => ?_) (fun c_989 => absurd (show C (aB 0 k) 3 = 1 from h1 e3) c_989)
            rw [sm_1 (show q_bi 0 2 I k = 0 from if_neg (by rw [e3]; decide))] at kk
            exact jr_forget (fun _ _ h => h) (fun i v h => by rcases i with _ | _ | _ | _ | _ | _ | _ | _ | _ | _ | _ | _ | _ | _ | _ | _ | _ | _ | _ | _ | _ | _ | _ | _ | _ | _ | _ | _ | _ | i <;> first | exact h | exact absurd h (by simp)) (kk)
          · refine jr_aload hX dL_law_939 rfl ?_
            refine jr_iload hX dL_law_941 rfl ?_
            refine jr_aald (t := 15) hX (by decide) kQ rfl (by omega) (pQ k (by omega)) dL_law_943 ?_
            refine jr_iconst (v := 5) hX dL_law_944 (by decide) ?_
            refine jr_iald hX (kR k (by omega)) (show _ = nI 5 from rfl) (by omega) dL_law_945 ?_
            rw [wQ k (by omega) 5 (by decide)]
            refine jr_iload hX dL_law_946 rfl ?_
            refine jr_isub hX dL_law_948 ?_
            refine jr_mabs (y := 0) hX kM_L_187 dL_law_949 rfl ⟨by first | (dsimp only; omega) | omega, by first | (dsimp only; omega) | omega⟩ ?_
            refine jr_aload hX dL_law_952 rfl ?_
            refine jr_iload hX dL_law_954 rfl ?_
            refine jr_aald (t := 15) hX (by decide) kQ rfl (by omega) (pQ k (by omega)) dL_law_956 ?_
            refine jr_iconst (v := 5) hX dL_law_957 (by decide) ?_
            refine jr_iald hX (kR k (by omega)) (show _ = nI 5 from rfl) (by omega) dL_law_958 ?_
            rw [wQ k (by omega) 5 (by decide)]
            refine jr_aload hX dL_law_959 rfl ?_
            refine jr_iload hX dL_law_961 rfl ?_
            refine jr_aald (t := 15) hX (by decide) kQ rfl (by omega) (pQ k (by omega)) dL_law_963 ?_
            refine jr_iconst (v := 4) hX dL_law_964 (by decide) ?_
            refine jr_iald hX (kR k (by omega)) (show _ = nI 4 from rfl) (by omega) dL_law_965 ?_
            rw [wQ k (by omega) 4 (by decide)]
            refine jr_isub hX dL_law_966 ?_
            refine jr_mabs (y := 0) hX kM_L_187 dL_law_967 rfl ⟨by first | (dsimp only; omega) | omega, by first | (dsimp only; omega) | omega⟩ ?_
            refine jr_icmp_lt (tgt := 975) hX dL_law_970 (by decide) (fun c_970 => ?_) (fun c_970 => absurd (show (if 0 ≤ C (aB 0 k) 6 - nI p then C (aB 0 k) 6 - nI p else 0 - (C (aB 0 k) 6 - nI p)) < (if 0 ≤ C (aB 0 k) 6 - C (aB 0 k) 4 then C (aB 0 k) 6 - C (aB 0 k) 4 else 0 - (C (aB 0 k) 6 - C (aB 0 k) 4)) from by rw [← ep]; exact (ck_ab hg (fun q => c_924 (show 2 ≤ C (aB 0 k) 3 by rw [q]; decide))).2 (fun q => c_936 (by rw [← ep]; exact q))) c_970)
            refine jr_iload hX dL_law_975 rfl ?_
            refine jr_iconst (v := 1) hX dL_law_977 (by decide) ?_
            refine jr_icmp_ne (tgt := 994) hX dL_law_978 (by decide) (fun c_978 => absurd c_978 (fun q => q rfl)) (fun c_978 => ?_)
            refine jr_aload hX dL_law_981 rfl ?_
            refine jr_iload hX dL_law_983 rfl ?_
            refine jr_aald (t := 15) hX (by decide) kQ rfl (by omega) (pQ k (by omega)) dL_law_985 ?_
            refine jr_iconst (v := 3) hX dL_law_986 (by decide) ?_
            refine jr_iald hX (kR k (by omega)) (show _ = nI 3 from rfl) (by omega) dL_law_987 ?_
            rw [wQ k (by omega) 3 (by decide)]
            refine jr_iconst (v := 1) hX dL_law_988 (by decide) ?_
            refine jr_icmp_eq (tgt := 994) hX dL_law_989 (by decide) (fun c_989 => ?_) (fun c_989 => absurd (show C (aB 0 k) 3 = 1 from h1 e3) c_989)
            rw [sm_1 (show q_bi 0 2 I k = 0 from if_neg (by rw [e3]; decide))] at kk
            exact jr_forget (fun _ _ h => h) (fun i v h => by rcases i with _ | _ | _ | _ | _ | _ | _ | _ | _ | _ | _ | _ | _ | _ | _ | _ | _ | _ | _ | _ | _ | _ | _ | _ | _ | _ | _ | _ | _ | i <;> first | exact h | exact absurd h (by simp)) (kk)
      · refine jr_iload hX dL_law_899 rfl ?_
        refine jr_aload hX dL_law_901 rfl ?_
        refine jr_iload hX dL_law_903 rfl ?_
        refine jr_aald (t := 15) hX (by decide) kQ rfl (by omega) (pQ k (by omega)) dL_law_905 ?_
        refine jr_bipush (v := 6) hX dL_law_906 (by decide) ?_
        refine jr_iald hX (kR k (by omega)) (show _ = nI 6 from rfl) (by omega) dL_law_908 ?_
        rw [wQ k (by omega) 6 (by decide)]
        refine jr_iconst (v := 1) hX dL_law_909 (by decide) ?_
        refine jr_isub hX dL_law_910 ?_
        refine jr_icmp_eq (tgt := 916) hX dL_law_911 (by decide) (fun c_911 => ?_) (fun c_911 => absurd (show 0 = C (aB 0 k) 7 - 1 from by rw [← l7]; exact ((hg.1 c_871).2).resolve_left (fun q => c_896 (by rw [← l7]; exact q))) c_911)
        refine jr_aload hX dL_law_916 rfl ?_
        refine jr_iload hX dL_law_918 rfl ?_
        refine jr_aald (t := 15) hX (by decide) kQ rfl (by omega) (pQ k (by omega)) dL_law_920 ?_
        refine jr_iconst (v := 3) hX dL_law_921 (by decide) ?_
        refine jr_iald hX (kR k (by omega)) (show _ = nI 3 from rfl) (by omega) dL_law_922 ?_
        rw [wQ k (by omega) 3 (by decide)]
        refine jr_iconst (v := 2) hX dL_law_923 (by decide) ?_
        refine jr_icmp_ge (tgt := 975) hX dL_law_924 (by decide) (fun c_924 => ?_) (fun c_924 => ?_)
        · refine jr_iload hX dL_law_975 rfl ?_
          refine jr_iconst (v := 1) hX dL_law_977 (by decide) ?_
          refine jr_icmp_ne (tgt := 994) hX dL_law_978 (by decide) (fun c_978 => absurd c_978 (fun q => q rfl)) (fun c_978 => ?_)
          refine jr_aload hX dL_law_981 rfl ?_
          refine jr_iload hX dL_law_983 rfl ?_
          refine jr_aald (t := 15) hX (by decide) kQ rfl (by omega) (pQ k (by omega)) dL_law_985 ?_
          refine jr_iconst (v := 3) hX dL_law_986 (by decide) ?_
          refine jr_iald hX (kR k (by omega)) (show _ = nI 3 from rfl) (by omega) dL_law_987 ?_
          rw [wQ k (by omega) 3 (by decide)]
          refine jr_iconst (v := 1) hX dL_law_988 (by decide) ?_
          refine jr_icmp_eq (tgt := 994) hX dL_law_989 (by decide) (fun c_989 => ?_) (fun c_989 => absurd (show C (aB 0 k) 3 = 1 from h1 e3) c_989)
          rw [sm_1 (show q_bi 0 2 I k = 0 from if_neg (by rw [e3]; decide))] at kk
          exact jr_forget (fun _ _ h => h) (fun i v h => by rcases i with _ | _ | _ | _ | _ | _ | _ | _ | _ | _ | _ | _ | _ | _ | _ | _ | _ | _ | _ | _ | _ | _ | _ | _ | _ | _ | _ | _ | _ | i <;> first | exact h | exact absurd h (by simp)) (kk)
        · refine jr_iload hX dL_law_927 rfl ?_
          refine jr_aload hX dL_law_929 rfl ?_
          refine jr_iload hX dL_law_931 rfl ?_
          refine jr_aald (t := 15) hX (by decide) kQ rfl (by omega) (pQ k (by omega)) dL_law_933 ?_
          refine jr_iconst (v := 4) hX dL_law_934 (by decide) ?_
          refine jr_iald hX (kR k (by omega)) (show _ = nI 4 from rfl) (by omega) dL_law_935 ?_
          rw [wQ k (by omega) 4 (by decide)]
          refine jr_icmp_eq (tgt := 975) hX dL_law_936 (by decide) (fun c_936 => ?_) (fun c_936 => ?_)
          · refine jr_iload hX dL_law_975 rfl ?_
            refine jr_iconst (v := 1) hX dL_law_977 (by decide) ?_
            refine jr_icmp_ne (tgt := 994) hX dL_law_978 (by decide) (fun c_978 => absurd c_978 (fun q => q rfl)) (fun c_978 => ?_)
            refine jr_aload hX dL_law_981 rfl ?_
            refine jr_iload hX dL_law_983 rfl ?_
            refine jr_aald (t := 15) hX (by decide) kQ rfl (by omega) (pQ k (by omega)) dL_law_985 ?_
            refine jr_iconst (v := 3) hX dL_law_986 (by decide) ?_
            refine jr_iald hX (kR k (by omega)) (show _ = nI 3 from rfl) (by omega) dL_law_987 ?_
            rw [wQ k (by omega) 3 (by decide)]
            refine jr_iconst (v := 1) hX dL_law_988 (by decide) ?_
            refine jr_icmp_eq (tgt := 994) hX dL_law_989 (by decide) (fun c_989 => ?_) (fun c_989 => absurd (show C (aB 0 k) 3 = 1 from h1 e3) c_989)
            rw [sm_1 (show q_bi 0 2 I k = 0 from if_neg (by rw [e3]; decide))] at kk
            exact jr_forget (fun _ _ h => h) (fun i v h => by rcases i with _ | _ | _ | _ | _ | _ | _ | _ | _ | _ | _ | _ | _ | _ | _ | _ | _ | _ | _ | _ | _ | _ | _ | _ | _ | _ | _ | _ | _ | i <;> first | exact h | exact absurd h (by simp)) (kk)
          · refine jr_aload hX dL_law_939 rfl ?_
            refine jr_iload hX dL_law_941 rfl ?_
            refine jr_aald (t := 15) hX (by decide) kQ rfl (by omega) (pQ k (by omega)) dL_law_943 ?_
            refine jr_iconst (v := 5) hX dL_law_944 (by decide) ?_
            refine jr_iald hX (kR k (by omega)) (show _ = nI 5 from rfl) (by omega) dL_law_945 ?_
            rw [wQ k (by omega) 5 (by decide)]
            refine jr_iload hX dL_law_946 rfl ?_
            refine jr_isub hX dL_law_948 ?_
            refine jr_mabs (y := 0) hX kM_L_187 dL_law_949 rfl ⟨by first | (dsimp only; omega) | omega, by first | (dsimp only; omega) | omega⟩ ?_
            refine jr_aload hX dL_law_952 rfl ?_
            refine jr_iload hX dL_law_954 rfl ?_
            refine jr_aald (t := 15) hX (by decide) kQ rfl (by omega) (pQ k (by omega)) dL_law_956 ?_
            refine jr_iconst (v := 5) hX dL_law_957 (by decide) ?_
            refine jr_iald hX (kR k (by omega)) (show _ = nI 5 from rfl) (by omega) dL_law_958 ?_
            rw [wQ k (by omega) 5 (by decide)]
            refine jr_aload hX dL_law_959 rfl ?_
            refine jr_iload hX dL_law_961 rfl ?_
            refine jr_aald (t := 15) hX (by decide) kQ rfl (by omega) (pQ k (by omega)) dL_law_963 ?_
            refine jr_iconst (v := 4) hX dL_law_964 (by decide) ?_
            refine jr_iald hX (kR k (by omega)) (show _ = nI 4 from rfl) (by omega) dL_law_965 ?_
            rw [wQ k (by omega) 4 (by decide)]
            refine jr_isub hX dL_law_966 ?_
            refine jr_mabs (y := 0) hX kM_L_187 dL_law_967 rfl ⟨by first | (dsimp only; omega) | omega, by first | (dsimp only; omega) | omega⟩ ?_
            refine jr_icmp_lt (tgt := 975) hX dL_law_970 (by decide) (fun c_970 => ?_) (fun c_970 => absurd (show (if 0 ≤ C (aB 0 k) 6 - nI p then C (aB 0 k) 6 - nI p else 0 - (C (aB 0 k) 6 - nI p)) < (if 0 ≤ C (aB 0 k) 6 - C (aB 0 k) 4 then C (aB 0 k) 6 - C (aB 0 k) 4 else 0 - (C (aB 0 k) 6 - C (aB 0 k) 4)) from by rw [← ep]; exact (ck_ab hg (fun q => c_924 (show 2 ≤ C (aB 0 k) 3 by rw [q]; decide))).2 (fun q => c_936 (by rw [← ep]; exact q))) c_970)
            refine jr_iload hX dL_law_975 rfl ?_
            refine jr_iconst (v := 1) hX dL_law_977 (by decide) ?_
            refine jr_icmp_ne (tgt := 994) hX dL_law_978 (by decide) (fun c_978 => absurd c_978 (fun q => q rfl)) (fun c_978 => ?_)
            refine jr_aload hX dL_law_981 rfl ?_
            refine jr_iload hX dL_law_983 rfl ?_
            refine jr_aald (t := 15) hX (by decide) kQ rfl (by omega) (pQ k (by omega)) dL_law_985 ?_
            refine jr_iconst (v := 3) hX dL_law_986 (by decide) ?_
            refine jr_iald hX (kR k (by omega)) (show _ = nI 3 from rfl) (by omega) dL_law_987 ?_
            rw [wQ k (by omega) 3 (by decide)]
            refine jr_iconst (v := 1) hX dL_law_988 (by decide) ?_
            refine jr_icmp_eq (tgt := 994) hX dL_law_989 (by decide) (fun c_989 => ?_) (fun c_989 => absurd (show C (aB 0 k) 3 = 1 from h1 e3) c_989)
            rw [sm_1 (show q_bi 0 2 I k = 0 from if_neg (by rw [e3]; decide))] at kk
            exact jr_forget (fun _ _ h => h) (fun i v h => by rcases i with _ | _ | _ | _ | _ | _ | _ | _ | _ | _ | _ | _ | _ | _ | _ | _ | _ | _ | _ | _ | _ | _ | _ | _ | _ | _ | _ | _ | _ | i <;> first | exact h | exact absurd h (by simp)) (kk)
  · refine jr_iload hX dL_law_846 rfl ?_
    refine jr_aload hX dL_law_848 rfl ?_
    refine jr_iload hX dL_law_850 rfl ?_
    refine jr_aald (t := 15) hX (by decide) kQ rfl (by omega) (pQ k (by omega)) dL_law_852 ?_
    refine jr_iconst (v := 4) hX dL_law_853 (by decide) ?_
    refine jr_iald hX (kR k (by omega)) (show _ = nI 4 from rfl) (by omega) dL_law_854 ?_
    rw [wQ k (by omega) 4 (by decide)]
    refine jr_isub hX dL_law_855 ?_
    refine jr_mabs (y := 0) hX kM_L_187 dL_law_856 rfl ⟨by first | (dsimp only; omega) | omega, by first | (dsimp only; omega) | omega⟩ ?_
    refine jr_iconst (v := 1) hX dL_law_859 (by decide) ?_
    refine jr_icmp_gt (tgt := 914) hX dL_law_860 (by decide) (fun c_860 => absurd c_860 (show ¬ 1 < (if 0 ≤ nI p - C (aB 0 k) 4 then nI p - C (aB 0 k) 4 else 0 - (nI p - C (aB 0 k) 4)) from by rw [← ep]; exact (ck_ab hg (fun q => c_843 (show 2 ≤ C (aB 0 k) 3 by rw [q]; decide))).1)) (fun c_860 => ?_)
    refine jr_aload hX dL_law_863 rfl ?_
    refine jr_iload hX dL_law_865 rfl ?_
    refine jr_aald (t := 15) hX (by decide) kQ rfl (by omega) (pQ k (by omega)) dL_law_867 ?_
    refine jr_iconst (v := 3) hX dL_law_868 (by decide) ?_
    refine jr_iald hX (kR k (by omega)) (show _ = nI 3 from rfl) (by omega) dL_law_869 ?_
    rw [wQ k (by omega) 3 (by decide)]
    refine jr_iconst (v := 2) hX dL_law_870 (by decide) ?_
    refine jr_icmp_ne (tgt := 916) hX dL_law_871 (by decide) (fun c_871 => ?_) (fun c_871 => ?_)
    · refine jr_aload hX dL_law_916 rfl ?_
      refine jr_iload hX dL_law_918 rfl ?_
      refine jr_aald (t := 15) hX (by decide) kQ rfl (by omega) (pQ k (by omega)) dL_law_920 ?_
      refine jr_iconst (v := 3) hX dL_law_921 (by decide) ?_
      refine jr_iald hX (kR k (by omega)) (show _ = nI 3 from rfl) (by omega) dL_law_922 ?_
      rw [wQ k (by omega) 3 (by decide)]
      refine jr_iconst (v := 2) hX dL_law_923 (by decide) ?_
      refine jr_icmp_ge (tgt := 975) hX dL_law_924 (by decide) (fun c_924 => ?_) (fun c_924 => ?_)
      · refine jr_iload hX dL_law_975 rfl ?_
        refine jr_iconst (v := 1) hX dL_law_977 (by decide) ?_
        refine jr_icmp_ne (tgt := 994) hX dL_law_978 (by decide) (fun c_978 => absurd c_978 (fun q => q rfl)) (fun c_978 => ?_)
        refine jr_aload hX dL_law_981 rfl ?_
        refine jr_iload hX dL_law_983 rfl ?_
        refine jr_aald (t := 15) hX (by decide) kQ rfl (by omega) (pQ k (by omega)) dL_law_985 ?_
        refine jr_iconst (v := 3) hX dL_law_986 (by decide) ?_
        refine jr_iald hX (kR k (by omega)) (show _ = nI 3 from rfl) (by omega) dL_law_987 ?_
        rw [wQ k (by omega) 3 (by decide)]
        refine jr_iconst (v := 1) hX dL_law_988 (by decide) ?_
        refine jr_icmp_eq (tgt := 994) hX dL_law_989 (by decide) (fun c_989 => ?_) (fun c_989 => absurd (show C (aB 0 k) 3 = 1 from h1 e3) c_989)
        rw [sm_1 (show q_bi 0 2 I k = 0 from if_neg (by rw [e3]; decide))] at kk
        exact jr_forget (fun _ _ h => h) (fun i v h => by rcases i with _ | _ | _ | _ | _ | _ | _ | _ | _ | _ | _ | _ | _ | _ | _ | _ | _ | _ | _ | _ | _ | _ | _ | _ | _ | _ | _ | _ | _ | i <;> first | exact h | exact absurd h (by simp)) (kk)
      · refine jr_iload hX dL_law_927 rfl ?_
        refine jr_aload hX dL_law_929 rfl ?_
        refine jr_iload hX dL_law_931 rfl ?_
        refine jr_aald (t := 15) hX (by decide) kQ rfl (by omega) (pQ k (by omega)) dL_law_933 ?_
        refine jr_iconst (v := 4) hX dL_law_934 (by decide) ?_
        refine jr_iald hX (kR k (by omega)) (show _ = nI 4 from rfl) (by omega) dL_law_935 ?_
        rw [wQ k (by omega) 4 (by decide)]
        refine jr_icmp_eq (tgt := 975) hX dL_law_936 (by decide) (fun c_936 => ?_) (fun c_936 => ?_)
        · refine jr_iload hX dL_law_975 rfl ?_
          refine jr_iconst (v := 1) hX dL_law_977 (by decide) ?_
          refine jr_icmp_ne (tgt := 994) hX dL_law_978 (by decide) (fun c_978 => absurd c_978 (fun q => q rfl)) (fun c_978 => ?_)
          refine jr_aload hX dL_law_981 rfl ?_
          refine jr_iload hX dL_law_983 rfl ?_
          refine jr_aald (t := 15) hX (by decide) kQ rfl (by omega) (pQ k (by omega)) dL_law_985 ?_
          refine jr_iconst (v := 3) hX dL_law_986 (by decide) ?_
          refine jr_iald hX (kR k (by omega)) (show _ = nI 3 from rfl) (by omega) dL_law_987 ?_
          rw [wQ k (by omega) 3 (by decide)]
          refine jr_iconst (v := 1) hX dL_law_988 (by decide) ?_
          refine jr_icmp_eq (tgt := 994) hX dL_law_989 (by decide) (fun c_989 => ?_) (fun c_989 => absurd (show C (aB 0 k) 3 = 1 from h1 e3) c_989)
          rw [sm_1 (show q_bi 0 2 I k = 0 from if_neg (by rw [e3]; decide))] at kk
          exact jr_forget (fun _ _ h => h) (fun i v h => by rcases i with _ | _ | _ | _ | _ | _ | _ | _ | _ | _ | _ | _ | _ | _ | _ | _ | _ | _ | _ | _ | _ | _ | _ | _ | _ | _ | _ | _ | _ | i <;> first | exact h | exact absurd h (by simp)) (kk)
        · refine jr_aload hX dL_law_939 rfl ?_
          refine jr_iload hX dL_law_941 rfl ?_
          refine jr_aald (t := 15) hX (by decide) kQ rfl (by omega) (pQ k (by omega)) dL_law_943 ?_
          refine jr_iconst (v := 5) hX dL_law_944 (by decide) ?_
          refine jr_iald hX (kR k (by omega)) (show _ = nI 5 from rfl) (by omega) dL_law_945 ?_
          rw [wQ k (by omega) 5 (by decide)]
          refine jr_iload hX dL_law_946 rfl ?_
          refine jr_isub hX dL_law_948 ?_
          refine jr_mabs (y := 0) hX kM_L_187 dL_law_949 rfl ⟨by first | (dsimp only; omega) | omega, by first | (dsimp only; omega) | omega⟩ ?_
          refine jr_aload hX dL_law_952 rfl ?_
          refine jr_iload hX dL_law_954 rfl ?_
          refine jr_aald (t := 15) hX (by decide) kQ rfl (by omega) (pQ k (by omega)) dL_law_956 ?_
          refine jr_iconst (v := 5) hX dL_law_957 (by decide) ?_
          refine jr_iald hX (kR k (by omega)) (show _ = nI 5 from rfl) (by omega) dL_law_958 ?_
          rw [wQ k (by omega) 5 (by decide)]
          refine jr_aload hX dL_law_959 rfl ?_
          refine jr_iload hX dL_law_961 rfl ?_
          refine jr_aald (t := 15) hX (by decide) kQ rfl (by omega) (pQ k (by omega)) dL_law_963 ?_
          refine jr_iconst (v := 4) hX dL_law_964 (by decide) ?_
          refine jr_iald hX (kR k (by omega)) (show _ = nI 4 from rfl) (by omega) dL_law_965 ?_
          rw [wQ k (by omega) 4 (by decide)]
          refine jr_isub hX dL_law_966 ?_
          refine jr_mabs (y := 0) hX kM_L_187 dL_law_967 rfl ⟨by first | (dsimp only; omega) | omega, by first | (dsimp only; omega) | omega⟩ ?_
          refine jr_icmp_lt (tgt := 975) hX dL_law_970 (by decide) (fun c_970 => ?_) (fun c_970 => absurd (show (if 0 ≤ C (aB 0 k) 6 - nI p then C (aB 0 k) 6 - nI p else 0 - (C (aB 0 k) 6 - nI p)) < (if 0 ≤ C (aB 0 k) 6 - C (aB 0 k) 4 then C (aB 0 k) 6 - C (aB 0 k) 4 else 0 - (C (aB 0 k) 6 - C (aB 0 k) 4)) from by rw [← ep]; exact (ck_ab hg (fun q => c_924 (show 2 ≤ C (aB 0 k) 3 by rw [q]; decide))).2 (fun q => c_936 (by rw [← ep]; exact q))) c_970)
          refine jr_iload hX dL_law_975 rfl ?_
          refine jr_iconst (v := 1) hX dL_law_977 (by decide) ?_
          refine jr_icmp_ne (tgt := 994) hX dL_law_978 (by decide) (fun c_978 => absurd c_978 (fun q => q rfl)) (fun c_978 => ?_)
          refine jr_aload hX dL_law_981 rfl ?_
          refine jr_iload hX dL_law_983 rfl ?_
          refine jr_aald (t := 15) hX (by decide) kQ rfl (by omega) (pQ k (by omega)) dL_law_985 ?_
          refine jr_iconst (v := 3) hX dL_law_986 (by decide) ?_
          refine jr_iald hX (kR k (by omega)) (show _ = nI 3 from rfl) (by omega) dL_law_987 ?_
          rw [wQ k (by omega) 3 (by decide)]
          refine jr_iconst (v := 1) hX dL_law_988 (by decide) ?_
          refine jr_icmp_eq (tgt := 994) hX dL_law_989 (by decide) (fun c_989 => ?_) (fun c_989 => absurd (show C (aB 0 k) 3 = 1 from h1 e3) c_989)
          rw [sm_1 (show q_bi 0 2 I k = 0 from if_neg (by rw [e3]; decide))] at kk
          exact jr_forget (fun _ _ h => h) (fun i v h => by rcases i with _ | _ | _ | _ | _ | _ | _ | _ | _ | _ | _ | _ | _ | _ | _ | _ | _ | _ | _ | _ | _ | _ | _ | _ | _ | _ | _ | _ | _ | i <;> first | exact h | exact absurd h (by simp)) (kk)
    · refine jr_iload hX dL_law_874 rfl ?_
      refine jr_aload hX dL_law_876 rfl ?_
      refine jr_iload hX dL_law_878 rfl ?_
      refine jr_aald (t := 15) hX (by decide) kQ rfl (by omega) (pQ k (by omega)) dL_law_880 ?_
      refine jr_iconst (v := 4) hX dL_law_881 (by decide) ?_
      refine jr_iald hX (kR k (by omega)) (show _ = nI 4 from rfl) (by omega) dL_law_882 ?_
      rw [wQ k (by omega) 4 (by decide)]
      refine jr_icmp_ne (tgt := 914) hX dL_law_883 (by decide) (fun c_883 => absurd c_883 (show ¬ ¬ nI p = C (aB 0 k) 4 from fun q => q (by rw [← ep]; exact (hg.1 c_871).1))) (fun c_883 => ?_)
      refine jr_iload hX dL_law_886 rfl ?_
      refine jr_aload hX dL_law_888 rfl ?_
      refine jr_iload hX dL_law_890 rfl ?_
      refine jr_aald (t := 15) hX (by decide) kQ rfl (by omega) (pQ k (by omega)) dL_law_892 ?_
      refine jr_bipush (v := 6) hX dL_law_893 (by decide) ?_
      refine jr_iald hX (kR k (by omega)) (show _ = nI 6 from rfl) (by omega) dL_law_895 ?_
      rw [wQ k (by omega) 6 (by decide)]
      refine jr_icmp_eq (tgt := 916) hX dL_law_896 (by decide) (fun c_896 => ?_) (fun c_896 => ?_)
      · refine jr_aload hX dL_law_916 rfl ?_
        refine jr_iload hX dL_law_918 rfl ?_
        refine jr_aald (t := 15) hX (by decide) kQ rfl (by omega) (pQ k (by omega)) dL_law_920 ?_
        refine jr_iconst (v := 3) hX dL_law_921 (by decide) ?_
        refine jr_iald hX (kR k (by omega)) (show _ = nI 3 from rfl) (by omega) dL_law_922 ?_
        rw [wQ k (by omega) 3 (by decide)]
        refine jr_iconst (v := 2) hX dL_law_923 (by decide) ?_
        refine jr_icmp_ge (tgt := 975) hX dL_law_924 (by decide) (fun c_924 => ?_) (fun c_924 => ?_)
        · refine jr_iload hX dL_law_975 rfl ?_
          refine jr_iconst (v := 1) hX dL_law_977 (by decide) ?_
          refine jr_icmp_ne (tgt := 994) hX dL_law_978 (by decide) (fun c_978 => absurd c_978 (fun q => q rfl)) (fun c_978 => ?_)
          refine jr_aload hX dL_law_981 rfl ?_
          refine jr_iload hX dL_law_983 rfl ?_
          refine jr_aald (t := 15) hX (by decide) kQ rfl (by omega) (pQ k (by omega)) dL_law_985 ?_
          refine jr_iconst (v := 3) hX dL_law_986 (by decide) ?_
          refine jr_iald hX (kR k (by omega)) (show _ = nI 3 from rfl) (by omega) dL_law_987 ?_
          rw [wQ k (by omega) 3 (by decide)]
          refine jr_iconst (v := 1) hX dL_law_988 (by decide) ?_
          refine jr_icmp_eq (tgt := 994) hX dL_law_989 (by decide) (fun c_989 => ?_) (fun c_989 => absurd (show C (aB 0 k) 3 = 1 from h1 e3) c_989)
          rw [sm_1 (show q_bi 0 2 I k = 0 from if_neg (by rw [e3]; decide))] at kk
          exact jr_forget (fun _ _ h => h) (fun i v h => by rcases i with _ | _ | _ | _ | _ | _ | _ | _ | _ | _ | _ | _ | _ | _ | _ | _ | _ | _ | _ | _ | _ | _ | _ | _ | _ | _ | _ | _ | _ | i <;> first | exact h | exact absurd h (by simp)) (kk)
        · refine jr_iload hX dL_law_927 rfl ?_
          refine jr_aload hX dL_law_929 rfl ?_
          refine jr_iload hX dL_law_931 rfl ?_
          refine jr_aald (t := 15) hX (by decide) kQ rfl (by omega) (pQ k (by omega)) dL_law_933 ?_
          refine jr_iconst (v := 4) hX dL_law_934 (by decide) ?_
          refine jr_iald hX (kR k (by omega)) (show _ = nI 4 from rfl) (by omega) dL_law_935 ?_
          rw [wQ k (by omega) 4 (by decide)]
          refine jr_icmp_eq (tgt := 975) hX dL_law_936 (by decide) (fun c_936 => ?_) (fun c_936 => ?_)
          · refine jr_iload hX dL_law_975 rfl ?_
            refine jr_iconst (v := 1) hX dL_law_977 (by decide) ?_
            refine jr_icmp_ne (tgt := 994) hX dL_law_978 (by decide) (fun c_978 => absurd c_978 (fun q => q rfl)) (fun c_978 => ?_)
            refine jr_aload hX dL_law_981 rfl ?_
            refine jr_iload hX dL_law_983 rfl ?_
            refine jr_aald (t := 15) hX (by decide) kQ rfl (by omega) (pQ k (by omega)) dL_law_985 ?_
            refine jr_iconst (v := 3) hX dL_law_986 (by decide) ?_
            refine jr_iald hX (kR k (by omega)) (show _ = nI 3 from rfl) (by omega) dL_law_987 ?_
            rw [wQ k (by omega) 3 (by decide)]
            refine jr_iconst (v := 1) hX dL_law_988 (by decide) ?_
            refine jr_icmp_eq (tgt := 994) hX dL_law_989 (by decide) (fun c_989 => ?_) (fun c_989 => absurd (show C (aB 0 k) 3 = 1 from h1 e3) c_989)
            rw [sm_1 (show q_bi 0 2 I k = 0 from if_neg (by rw [e3]; decide))] at kk
            exact jr_forget (fun _ _ h => h) (fun i v h => by rcases i with _ | _ | _ | _ | _ | _ | _ | _ | _ | _ | _ | _ | _ | _ | _ | _ | _ | _ | _ | _ | _ | _ | _ | _ | _ | _ | _ | _ | _ | i <;> first | exact h | exact absurd h (by simp)) (kk)
          · refine jr_aload hX dL_law_939 rfl ?_
            refine jr_iload hX dL_law_941 rfl ?_
            refine jr_aald (t := 15) hX (by decide) kQ rfl (by omega) (pQ k (by omega)) dL_law_943 ?_
            refine jr_iconst (v := 5) hX dL_law_944 (by decide) ?_
            refine jr_iald hX (kR k (by omega)) (show _ = nI 5 from rfl) (by omega) dL_law_945 ?_
            rw [wQ k (by omega) 5 (by decide)]
            refine jr_iload hX dL_law_946 rfl ?_
            refine jr_isub hX dL_law_948 ?_
            refine jr_mabs (y := 0) hX kM_L_187 dL_law_949 rfl ⟨by first | (dsimp only; omega) | omega, by first | (dsimp only; omega) | omega⟩ ?_
            refine jr_aload hX dL_law_952 rfl ?_
            refine jr_iload hX dL_law_954 rfl ?_
            refine jr_aald (t := 15) hX (by decide) kQ rfl (by omega) (pQ k (by omega)) dL_law_956 ?_
            refine jr_iconst (v := 5) hX dL_law_957 (by decide) ?_
            refine jr_iald hX (kR k (by omega)) (show _ = nI 5 from rfl) (by omega) dL_law_958 ?_
            rw [wQ k (by omega) 5 (by decide)]
            refine jr_aload hX dL_law_959 rfl ?_
            refine jr_iload hX dL_law_961 rfl ?_
            refine jr_aald (t := 15) hX (by decide) kQ rfl (by omega) (pQ k (by omega)) dL_law_963 ?_
            refine jr_iconst (v := 4) hX dL_law_964 (by decide) ?_
            refine jr_iald hX (kR k (by omega)) (show _ = nI 4 from rfl) (by omega) dL_law_965 ?_
            rw [wQ k (by omega) 4 (by decide)]
            refine jr_isub hX dL_law_966 ?_
            refine jr_mabs (y := 0) hX kM_L_187 dL_law_967 rfl ⟨by first | (dsimp only; omega) | omega, by first | (dsimp only; omega) | omega⟩ ?_
            refine jr_icmp_lt (tgt := 975) hX dL_law_970 (by decide) (fun c_970 => ?_) (fun c_970 => absurd (show (if 0 ≤ C (aB 0 k) 6 - nI p then C (aB 0 k) 6 - nI p else 0 - (C (aB 0 k) 6 - nI p)) < (if 0 ≤ C (aB 0 k) 6 - C (aB 0 k) 4 then C (aB 0 k) 6 - C (aB 0 k) 4 else 0 - (C (aB 0 k) 6 - C (aB 0 k) 4)) from by rw [← ep]; exact (ck_ab hg (fun q => c_924 (show 2 ≤ C (aB 0 k) 3 by rw [q]; decide))).2 (fun q => c_936 (by rw [← ep]; exact q))) c_970)
            refine jr_iload hX dL_law_975 rfl ?_
            refine jr_iconst (v := 1) hX dL_law_977 (by decide) ?_
            refine jr_icmp_ne (tgt := 994) hX dL_law_978 (by decide) (fun c_978 => absurd c_978 (fun q => q rfl)) (fun c_978 => ?_)
            refine jr_aload hX dL_law_981 rfl ?_
            refine jr_iload hX dL_law_983 rfl ?_
            refine jr_aald (t := 15) hX (by decide) kQ rfl (by omega) (pQ k (by omega)) dL_law_985 ?_
            refine jr_iconst (v := 3) hX dL_law_986 (by decide) ?_
            refine jr_iald hX (kR k (by omega)) (show _ = nI 3 from rfl) (by omega) dL_law_987 ?_
            rw [wQ k (by omega) 3 (by decide)]
            refine jr_iconst (v := 1) hX dL_law_988 (by decide) ?_
            refine jr_icmp_eq (tgt := 994) hX dL_law_989 (by decide) (fun c_989 => ?_) (fun c_989 => absurd (show C (aB 0 k) 3 = 1 from h1 e3) c_989)
            rw [sm_1 (show q_bi 0 2 I k = 0 from if_neg (by rw [e3]; decide))] at kk
            exact jr_forget (fun _ _ h => h) (fun i v h => by rcases i with _ | _ | _ | _ | _ | _ | _ | _ | _ | _ | _ | _ | _ | _ | _ | _ | _ | _ | _ | _ | _ | _ | _ | _ | _ | _ | _ | _ | _ | i <;> first | exact h | exact absurd h (by simp)) (kk)
      · refine jr_iload hX dL_law_899 rfl ?_
        refine jr_aload hX dL_law_901 rfl ?_
        refine jr_iload hX dL_law_903 rfl ?_
        refine jr_aald (t := 15) hX (by decide) kQ rfl (by omega) (pQ k (by omega)) dL_law_905 ?_
        refine jr_bipush (v := 6) hX dL_law_906 (by decide) ?_
        refine jr_iald hX (kR k (by omega)) (show _ = nI 6 from rfl) (by omega) dL_law_908 ?_
        rw [wQ k (by omega) 6 (by decide)]
        refine jr_iconst (v := 1) hX dL_law_909 (by decide) ?_
        refine jr_isub hX dL_law_910 ?_
        refine jr_icmp_eq (tgt := 916) hX dL_law_911 (by decide) (fun c_911 => ?_) (fun c_911 => absurd (show 0 = C (aB 0 k) 7 - 1 from by rw [← l7]; exact ((hg.1 c_871).2).resolve_left (fun q => c_896 (by rw [← l7]; exact q))) c_911)
        refine jr_aload hX dL_law_916 rfl ?_
        refine jr_iload hX dL_law_918 rfl ?_
        refine jr_aald (t := 15) hX (by decide) kQ rfl (by omega) (pQ k (by omega)) dL_law_920 ?_
        refine jr_iconst (v := 3) hX dL_law_921 (by decide) ?_
        refine jr_iald hX (kR k (by omega)) (show _ = nI 3 from rfl) (by omega) dL_law_922 ?_
        rw [wQ k (by omega) 3 (by decide)]
        refine jr_iconst (v := 2) hX dL_law_923 (by decide) ?_
        refine jr_icmp_ge (tgt := 975) hX dL_law_924 (by decide) (fun c_924 => ?_) (fun c_924 => ?_)
        · refine jr_iload hX dL_law_975 rfl ?_
          refine jr_iconst (v := 1) hX dL_law_977 (by decide) ?_
          refine jr_icmp_ne (tgt := 994) hX dL_law_978 (by decide) (fun c_978 => absurd c_978 (fun q => q rfl)) (fun c_978 => ?_)
          refine jr_aload hX dL_law_981 rfl ?_
          refine jr_iload hX dL_law_983 rfl ?_
          refine jr_aald (t := 15) hX (by decide) kQ rfl (by omega) (pQ k (by omega)) dL_law_985 ?_
          refine jr_iconst (v := 3) hX dL_law_986 (by decide) ?_
          refine jr_iald hX (kR k (by omega)) (show _ = nI 3 from rfl) (by omega) dL_law_987 ?_
          rw [wQ k (by omega) 3 (by decide)]
          refine jr_iconst (v := 1) hX dL_law_988 (by decide) ?_
          refine jr_icmp_eq (tgt := 994) hX dL_law_989 (by decide) (fun c_989 => ?_) (fun c_989 => absurd (show C (aB 0 k) 3 = 1 from h1 e3) c_989)
          rw [sm_1 (show q_bi 0 2 I k = 0 from if_neg (by rw [e3]; decide))] at kk
          exact jr_forget (fun _ _ h => h) (fun i v h => by rcases i with _ | _ | _ | _ | _ | _ | _ | _ | _ | _ | _ | _ | _ | _ | _ | _ | _ | _ | _ | _ | _ | _ | _ | _ | _ | _ | _ | _ | _ | i <;> first | exact h | exact absurd h (by simp)) (kk)
        · refine jr_iload hX dL_law_927 rfl ?_
          refine jr_aload hX dL_law_929 rfl ?_
          refine jr_iload hX dL_law_931 rfl ?_
          refine jr_aald (t := 15) hX (by decide) kQ rfl (by omega) (pQ k (by omega)) dL_law_933 ?_
          refine jr_iconst (v := 4) hX dL_law_934 (by decide) ?_
          refine jr_iald hX (kR k (by omega)) (show _ = nI 4 from rfl) (by omega) dL_law_935 ?_
          rw [wQ k (by omega) 4 (by decide)]
          refine jr_icmp_eq (tgt := 975) hX dL_law_936 (by decide) (fun c_936 => ?_) (fun c_936 => ?_)
          · refine jr_iload hX dL_law_975 rfl ?_
            refine jr_iconst (v := 1) hX dL_law_977 (by decide) ?_
            refine jr_icmp_ne (tgt := 994) hX dL_law_978 (by decide) (fun c_978 => absurd c_978 (fun q => q rfl)) (fun c_978 => ?_)
            refine jr_aload hX dL_law_981 rfl ?_
            refine jr_iload hX dL_law_983 rfl ?_
            refine jr_aald (t := 15) hX (by decide) kQ rfl (by omega) (pQ k (by omega)) dL_law_985 ?_
            refine jr_iconst (v := 3) hX dL_law_986 (by decide) ?_
            refine jr_iald hX (kR k (by omega)) (show _ = nI 3 from rfl) (by omega) dL_law_987 ?_
            rw [wQ k (by omega) 3 (by decide)]
            refine jr_iconst (v := 1) hX dL_law_988 (by decide) ?_
            refine jr_icmp_eq (tgt := 994) hX dL_law_989 (by decide) (fun c_989 => ?_) (fun c_989 => absurd (show C (aB 0 k) 3 = 1 from h1 e3) c_989)
            rw [sm_1 (show q_bi 0 2 I k = 0 from if_neg (by rw [e3]; decide))] at kk
            exact jr_forget (fun _ _ h => h) (fun i v h => by rcases i with _ | _ | _ | _ | _ | _ | _ | _ | _ | _ | _ | _ | _ | _ | _ | _ | _ | _ | _ | _ | _ | _ | _ | _ | _ | _ | _ | _ | _ | i <;> first | exact h | exact absurd h (by simp)) (kk)
          · refine jr_aload hX dL_law_939 rfl ?_
            refine jr_iload hX dL_law_941 rfl ?_
            refine jr_aald (t := 15) hX (by decide) kQ rfl (by omega) (pQ k (by omega)) dL_law_943 ?_
            refine jr_iconst (v := 5) hX dL_law_944 (by decide) ?_
            refine jr_iald hX (kR k (by omega)) (show _ = nI 5 from rfl) (by omega) dL_law_945 ?_
            rw [wQ k (by omega) 5 (by decide)]
            refine jr_iload hX dL_law_946 rfl ?_
            refine jr_isub hX dL_law_948 ?_
            refine jr_mabs (y := 0) hX kM_L_187 dL_law_949 rfl ⟨by first | (dsimp only; omega) | omega, by first | (dsimp only; omega) | omega⟩ ?_
            refine jr_aload hX dL_law_952 rfl ?_
            refine jr_iload hX dL_law_954 rfl ?_
            refine jr_aald (t := 15) hX (by decide) kQ rfl (by omega) (pQ k (by omega)) dL_law_956 ?_
            refine jr_iconst (v := 5) hX dL_law_957 (by decide) ?_
            refine jr_iald hX (kR k (by omega)) (show _ = nI 5 from rfl) (by omega) dL_law_958 ?_
            rw [wQ k (by omega) 5 (by decide)]
            refine jr_aload hX dL_law_959 rfl ?_
            refine jr_iload hX dL_law_961 rfl ?_
            refine jr_aald (t := 15) hX (by decide) kQ rfl (by omega) (pQ k (by omega)) dL_law_963 ?_
            refine jr_iconst (v := 4) hX dL_law_964 (by decide) ?_
            refine jr_iald hX (kR k (by omega)) (show _ = nI 4 from rfl) (by omega) dL_law_965 ?_
            rw [wQ k (by omega) 4 (by decide)]
            refine jr_isub hX dL_law_966 ?_
            refine jr_mabs (y := 0) hX kM_L_187 dL_law_967 rfl ⟨by first | (dsimp only; omega) | omega, by first | (dsimp only; omega) | omega⟩ ?_
            refine jr_icmp_lt (tgt := 975) hX dL_law_970 (by decide) (fun c_970 => ?_) (fun c_970 => absurd (show (if 0 ≤ C (aB 0 k) 6 - nI p then C (aB 0 k) 6 - nI p else 0 - (C (aB 0 k) 6 - nI p)) < (if 0 ≤ C (aB 0 k) 6 - C (aB 0 k) 4 then C (aB 0 k) 6 - C (aB 0 k) 4 else 0 - (C (aB 0 k) 6 - C (aB 0 k) 4)) from by rw [← ep]; exact (ck_ab hg (fun q => c_924 (show 2 ≤ C (aB 0 k) 3 by rw [q]; decide))).2 (fun q => c_936 (by rw [← ep]; exact q))) c_970)
            refine jr_iload hX dL_law_975 rfl ?_
            refine jr_iconst (v := 1) hX dL_law_977 (by decide) ?_
            refine jr_icmp_ne (tgt := 994) hX dL_law_978 (by decide) (fun c_978 => absurd c_978 (fun q => q rfl)) (fun c_978 => ?_)
            refine jr_aload hX dL_law_981 rfl ?_
            refine jr_iload hX dL_law_983 rfl ?_
            refine jr_aald (t := 15) hX (by decide) kQ rfl (by omega) (pQ k (by omega)) dL_law_985 ?_
            refine jr_iconst (v := 3) hX dL_law_986 (by decide) ?_
            refine jr_iald hX (kR k (by omega)) (show _ = nI 3 from rfl) (by omega) dL_law_987 ?_
            rw [wQ k (by omega) 3 (by decide)]
            refine jr_iconst (v := 1) hX dL_law_988 (by decide) ?_
            refine jr_icmp_eq (tgt := 994) hX dL_law_989 (by decide) (fun c_989 => ?_) (fun c_989 => absurd (show C (aB 0 k) 3 = 1 from h1 e3) c_989)
            rw [sm_1 (show q_bi 0 2 I k = 0 from if_neg (by rw [e3]; decide))] at kk
            exact jr_forget (fun _ _ h => h) (fun i v h => by rcases i with _ | _ | _ | _ | _ | _ | _ | _ | _ | _ | _ | _ | _ | _ | _ | _ | _ | _ | _ | _ | _ | _ | _ | _ | _ | _ | _ | _ | _ | i <;> first | exact h | exact absurd h (by simp)) (kk)
set_option maxHeartbeats 4000000 in
set_option maxRecDepth 100000 in
theorem lw_boat_2 {X : jj_X} {D : jj_D} {nm : String} {tb : List ExceptionTableEntry} {Q : State → Prop} (hX : jj_Cx X D cL_law RL 29 (some .boolean) nm { frames := 12, cells := 600074, slots := 7301550, locals := 458 } tb) (hSt : jj_St X D) {n cs sl : Nat} {K : jj_K} {I : jj_I} {P : jj_P} {G : jj_G} {A : Nat → Nat} {H M B N t t0 time q d who nA nO nC : Nat} {k : Nat} {x : Int32} {C : jj_I} (hv : lv A H M B N n t K I P) (hk : k < B) (hc3 : ¬ C (aB 0 k) 3 = 3) (e3 : I (aB 0 k) 3 = 2) (DY : dayB H k C I) (hcs : cs + 100 ≤ 600074) (hsl : sl + 200 ≤ 7301550) (kQ : K q = some (15, B)) (pQ : ∀ j, j < B → P q j = some (q + 1 + j)) (kR : ∀ j, j < B → K (q + 1 + j) = some (10, 12)) (wQ : ∀ j, j < B → ∀ w, w < 12 → I (q + 1 + j) w = q_bf j C w) (kk : jj_J X D 29 cs sl Q n K I P G 994 [some (.ref (0)), some (.ref (1)), some (.ref (A 0)), some (.int (nI H)), some (.int (nI B)), some (.int (nI M)), some (.int (nI time)), some (.int (x)), some (.ref (q)), some (.ref (nA)), some (.int (nI who)), some (.ref (nO)), some (.ref (nC)), some (.int (sm (g_go B N C) M)), some (.int (g_cs M C)), some (.int (nI N)), some (.int (sm (s_op C) N)), some (.int (nI d)), some (.int (C (aWm 0) (d % 40))), some (.int (sm (q_bi 0 1 C) B)), some (.int (sm (q_bi 0 3 (f_pd 0 H B N d C)) B - sm (q_bi 0 3 C) B)), some (.int (sm (g_lo C (f_pd 0 H B N d C)) k)), some (.int (sm (g_sk C (f_pd 0 H B N d C)) k)), some (.int (sm (q_bi 0 2 I) (k + 1))), some (.int (nI k)), none, none, none, none] []) :
    jj_J X D 29 (cs) (sl) Q (n) (K) (I) (P) G 650 [some (.ref (0)), some (.ref (1)), some (.ref (A 0)), some (.int (nI H)), some (.int (nI B)), some (.int (nI M)), some (.int (nI time)), some (.int (x)), some (.ref (q)), some (.ref (nA)), some (.int (nI who)), some (.ref (nO)), some (.ref (nC)), some (.int (sm (g_go B N C) M)), some (.int (g_cs M C)), some (.int (nI N)), some (.int (sm (s_op C) N)), some (.int (nI d)), some (.int (C (aWm 0) (d % 40))), some (.int (sm (q_bi 0 1 C) B)), some (.int (sm (q_bi 0 3 (f_pd 0 H B N d C)) B - sm (q_bi 0 3 C) B)), some (.int (sm (g_lo C (f_pd 0 H B N d C)) k)), some (.int (sm (g_sk C (f_pd 0 H B N d C)) k)), some (.int (sm (q_bi 0 2 I) k)), some (.int (nI k)), some (.int (I (aB 0 k) 3)), some (.int (I (aB 0 k) 4)), some (.int (I (aB 0 k) 7)), none] [] := by
  obtain ⟨hly, hsy, hms, htc, hdz, hH, hM, hB1, hB9, how⟩ := id hv
  have g0 := sy_lt hsy (t := 0) sv_0
  have n3 : ¬ I (aB 0 k) 3 = 3 := by rw [e3]; decide
  obtain ⟨p, hp, ep⟩ := (htc.1.2.2.2.2.1 k hk).2.2.1 n3
  obtain ⟨hu, hh, ehu, e6, hd⟩ := DY.2 hc3
  rcases hd with ⟨w, -⟩ | ⟨-, h1, hlw, hg, hc, hull⟩
  · exact absurd w n3
  have hg1 : ¬ C (aB 0 k) 1 < I (aB 0 k) 1 := by
    rcases hull with ⟨w, -⟩ | ⟨w0, w, -⟩
    · rw [w, ehu]; exact Int32.lt_irrefl
    · rw [w, ehu, sn_il (by omega) (by omega)]; omega
  have hg2 : ¬ I (aB 0 k) 1 < C (aB 0 k) 1 - 1 := by
    rcases hull with ⟨w, -⟩ | ⟨w0, w, -⟩
    · rw [w, ehu, jm_sub1 hh.1, sn_il (by omega) (by omega)]; omega
    · rw [w, ehu, jm_sub1 hh.1]; exact Int32.lt_irrefl
  obtain ⟨t7, t71, t72, l7⟩ := hlw.2 e3
  rw [e3, ep, l7]
  refine jr_iload hX dL_law_650 rfl ?_
  refine jr_iload hX dL_law_652 rfl ?_
  refine jr_iconst (v := 2) hX dL_law_654 (by decide) ?_
  refine jr_icmp_ne (tgt := 662) hX dL_law_655 (by decide) (fun c_655 => absurd c_655 (fun q => q rfl)) (fun c_655 => ?_)
  refine jr_iconst (v := 1) hX dL_law_658 (by decide) ?_
  refine jr_goto (tgt := 663) hX dL_law_659 (by decide) ?_
  refine jr_iadd hX dL_law_663 ?_
  refine jr_istore hX dL_law_664 rfl ?_
  refine jr_iload hX dL_law_666 rfl ?_
  refine jr_if_ne (tgt := 687) hX dL_law_668 (by decide) (fun c_668 => ?_) (fun c_668 => absurd c_668 (by decide))
  refine jr_iconst (v := 0) hX dL_law_687 (by decide) ?_
  refine jr_istore hX dL_law_688 rfl ?_
  refine jr_iload hX dL_law_690 rfl ?_
  refine jr_iconst (v := 2) hX dL_law_692 (by decide) ?_
  refine jr_icmp_ge (tgt := 724) hX dL_law_693 (by decide) (fun c_693 => ?_) (fun c_693 => absurd (by decide) c_693)
  refine jr_aload_n hX dL_law_724 rfl ?_
  refine jr_iload hX dL_law_725 rfl ?_
  refine jr_iconst (v := 1) hX dL_law_727 (by decide) ?_
  refine jr_ret (jr_runV hX hSt kM_L_158 (c_boat_ok (jj_fl hX) hly htc.1 (b := k) (t := 1) (by assumption) (by decide)) rfl rfl (ly_kI hly) ⟨_, _, rfl, by decide⟩ dL_law_728 rfl ⟨by simp only [jj_N]; omega, by simp only [jj_N]; omega⟩ rfl) ?_
  refine jr_aload hX dL_law_731 rfl ?_
  refine jr_iload hX dL_law_733 rfl ?_
  refine jr_aald (t := 15) hX (by decide) kQ rfl (by omega) (pQ k (by omega)) dL_law_735 ?_
  refine jr_iconst (v := 1) hX dL_law_736 (by decide) ?_
  refine jr_iald hX (kR k (by omega)) (show _ = nI 1 from rfl) (by omega) dL_law_737 ?_
  rw [wQ k (by omega) 1 (by decide)]
  refine jr_icmp_gt (tgt := 796) hX dL_law_738 (by decide) (fun c_738 => absurd c_738 (show ¬ C (aB 0 k) 1 < I (aB 0 k) 1 from hg1)) (fun c_738 => ?_)
  refine jr_aload_n hX dL_law_741 rfl ?_
  refine jr_iload hX dL_law_742 rfl ?_
  refine jr_iconst (v := 1) hX dL_law_744 (by decide) ?_
  refine jr_ret (jr_runV hX hSt kM_L_158 (c_boat_ok (jj_fl hX) hly htc.1 (b := k) (t := 1) (by assumption) (by decide)) rfl rfl (ly_kI hly) ⟨_, _, rfl, by decide⟩ dL_law_745 rfl ⟨by simp only [jj_N]; omega, by simp only [jj_N]; omega⟩ rfl) ?_
  refine jr_aload hX dL_law_748 rfl ?_
  refine jr_iload hX dL_law_750 rfl ?_
  refine jr_aald (t := 15) hX (by decide) kQ rfl (by omega) (pQ k (by omega)) dL_law_752 ?_
  refine jr_iconst (v := 1) hX dL_law_753 (by decide) ?_
  refine jr_iald hX (kR k (by omega)) (show _ = nI 1 from rfl) (by omega) dL_law_754 ?_
  rw [wQ k (by omega) 1 (by decide)]
  refine jr_iconst (v := 1) hX dL_law_755 (by decide) ?_
  refine jr_isub hX dL_law_756 ?_
  refine jr_icmp_lt (tgt := 796) hX dL_law_757 (by decide) (fun c_757 => absurd c_757 (show ¬ I (aB 0 k) 1 < C (aB 0 k) 1 - 1 from hg2)) (fun c_757 => ?_)
  refine jr_aload_n hX dL_law_760 rfl ?_
  refine jr_iload hX dL_law_761 rfl ?_
  refine jr_bipush (v := 7) hX dL_law_763 (by decide) ?_
  refine jr_ret (jr_runV hX hSt kM_L_158 (c_boat_ok (jj_fl hX) hly htc.1 (b := k) (t := 7) (by assumption) (by decide)) rfl rfl (ly_kI hly) ⟨_, _, rfl, by decide⟩ dL_law_765 rfl ⟨by simp only [jj_N]; omega, by simp only [jj_N]; omega⟩ rfl) ?_
  refine jr_aload hX dL_law_768 rfl ?_
  refine jr_iload hX dL_law_770 rfl ?_
  refine jr_aald (t := 15) hX (by decide) kQ rfl (by omega) (pQ k (by omega)) dL_law_772 ?_
  refine jr_bipush (v := 7) hX dL_law_773 (by decide) ?_
  refine jr_iald hX (kR k (by omega)) (show _ = nI 7 from rfl) (by omega) dL_law_775 ?_
  rw [wQ k (by omega) 7 (by decide)]
  refine jr_icmp_ne (tgt := 796) hX dL_law_776 (by decide) (fun c_776 => absurd c_776 (show ¬ ¬ _ = _ from fun q => q (show sm (I (aBc 0 k)) 4 = sm (C (aBc 0 k)) 4 by rw [hc]))) (fun c_776 => ?_)
  refine jr_aload_n hX dL_law_779 rfl ?_
  refine jr_iload hX dL_law_780 rfl ?_
  refine jr_iconst (v := 5) hX dL_law_782 (by decide) ?_
  refine jr_ret (jr_runV hX hSt kM_L_158 (c_boat_ok (jj_fl hX) hly htc.1 (b := k) (t := 5) (by assumption) (by decide)) rfl rfl (ly_kI hly) ⟨_, _, rfl, by decide⟩ dL_law_783 rfl ⟨by simp only [jj_N]; omega, by simp only [jj_N]; omega⟩ rfl) ?_
  refine jr_aload hX dL_law_786 rfl ?_
  refine jr_iload hX dL_law_788 rfl ?_
  refine jr_aald (t := 15) hX (by decide) kQ rfl (by omega) (pQ k (by omega)) dL_law_790 ?_
  refine jr_iconst (v := 5) hX dL_law_791 (by decide) ?_
  refine jr_iald hX (kR k (by omega)) (show _ = nI 5 from rfl) (by omega) dL_law_792 ?_
  rw [wQ k (by omega) 5 (by decide)]
  refine jr_icmp_eq (tgt := 798) hX dL_law_793 (by decide) (fun c_793 => ?_) (fun c_793 => absurd (show I (aB 0 k) 6 = C (aB 0 k) 6 from e6) c_793)
  refine jr_iload hX dL_law_798 rfl ?_
  refine jr_if_lt (tgt := 833) hX dL_law_800 (by decide) (fun c_800 => absurd c_800 (nI_pos (by omega))) (fun c_800 => ?_)
  refine jr_iload hX dL_law_803 rfl ?_
  refine jr_iconst (v := 2) hX dL_law_805 (by decide) ?_
  refine jr_icmp_eq (tgt := 814) hX dL_law_806 (by decide) (fun c_806 => ?_) (fun c_806 => absurd rfl c_806)
  refine jr_iload hX dL_law_814 rfl ?_
  refine jr_iconst (v := 2) hX dL_law_816 (by decide) ?_
  refine jr_icmp_ne (tgt := 835) hX dL_law_817 (by decide) (fun c_817 => absurd c_817 (fun q => q rfl)) (fun c_817 => ?_)
  refine jr_iload hX dL_law_820 rfl ?_
  refine jr_iconst (v := 1) hX dL_law_822 (by decide) ?_
  refine jr_icmp_lt (tgt := 833) hX dL_law_823 (by decide) (fun c_823 => absurd c_823 (by rw [show (1 : Int32) = nI 1 from rfl, sn_il (by omega) (by omega)]; omega)) (fun c_823 => ?_)
  refine jr_iload hX dL_law_826 rfl ?_
  refine jr_bipush (v := 17) hX dL_law_828 (by decide) ?_
  refine jr_icmp_le (tgt := 835) hX dL_law_830 (by decide) (fun c_830 => ?_) (fun c_830 => absurd (by rw [show (17 : Int32) = nI 17 from rfl]; exact nI_le (by omega) (by omega)) c_830)
  refine jr_aload hX dL_law_835 rfl ?_
  refine jr_iload hX dL_law_837 rfl ?_
  refine jr_aald (t := 15) hX (by decide) kQ rfl (by omega) (pQ k (by omega)) dL_law_839 ?_
  refine jr_iconst (v := 3) hX dL_law_840 (by decide) ?_
  refine jr_iald hX (kR k (by omega)) (show _ = nI 3 from rfl) (by omega) dL_law_841 ?_
  rw [wQ k (by omega) 3 (by decide)]
  refine jr_iconst (v := 2) hX dL_law_842 (by decide) ?_
  refine jr_icmp_ge (tgt := 863) hX dL_law_843 (by decide) (fun c_843 => ?_) (fun c_843 => ?_)
  · refine jr_aload hX dL_law_863 rfl ?_
    refine jr_iload hX dL_law_865 rfl ?_
    refine jr_aald (t := 15) hX (by decide) kQ rfl (by omega) (pQ k (by omega)) dL_law_867 ?_
    refine jr_iconst (v := 3) hX dL_law_868 (by decide) ?_
    refine jr_iald hX (kR k (by omega)) (show _ = nI 3 from rfl) (by omega) dL_law_869 ?_
    rw [wQ k (by omega) 3 (by decide)]
    refine jr_iconst (v := 2) hX dL_law_870 (by decide) ?_
    refine jr_icmp_ne (tgt := 916) hX dL_law_871 (by decide) (fun c_871 => ?_) (fun c_871 => ?_)
    · refine jr_aload hX dL_law_916 rfl ?_
      refine jr_iload hX dL_law_918 rfl ?_
      refine jr_aald (t := 15) hX (by decide) kQ rfl (by omega) (pQ k (by omega)) dL_law_920 ?_
      refine jr_iconst (v := 3) hX dL_law_921 (by decide) ?_
      refine jr_iald hX (kR k (by omega)) (show _ = nI 3 from rfl) (by omega) dL_law_922 ?_
      rw [wQ k (by omega) 3 (by decide)]
      refine jr_iconst (v := 2) hX dL_law_923 (by decide) ?_
      refine jr_icmp_ge (tgt := 975) hX dL_law_924 (by decide) (fun c_924 => ?_) (fun c_924 => ?_)
      · refine jr_iload hX dL_law_975 rfl ?_
        refine jr_iconst (v := 1) hX dL_law_977 (by decide) ?_
        refine jr_icmp_ne (tgt := 994) hX dL_law_978 (by decide) (fun c_978 => ?_) (fun c_978 => absurd c_978 (by decide))
        rw [sm_1 (show q_bi 0 2 I k = 1 from if_pos e3)] at kk
        exact jr_forget (fun _ _ h => h) (fun i v h => by rcases i with _ | _ | _ | _ | _ | _ | _ | _ | _ | _ | _ | _ | _ | _ | _ | _ | _ | _ | _ | _ | _ | _ | _ | _ | _ | _ | _ | _ | _ | i <;> first | exact h | exact absurd h (by simp)) (kk)
      · refine jr_iload hX dL_law_927 rfl ?_
        refine jr_aload hX dL_law_929 rfl ?_
        refine jr_iload hX dL_law_931 rfl ?_
        refine jr_aald (t := 15) hX (by decide) kQ rfl (by omega) (pQ k (by omega)) dL_law_933 ?_
        refine jr_iconst (v := 4) hX dL_law_934 (by decide) ?_
        refine jr_iald hX (kR k (by omega)) (show _ = nI 4 from rfl) (by omega) dL_law_935 ?_
        rw [wQ k (by omega) 4 (by decide)]
        refine jr_icmp_eq (tgt := 975) hX dL_law_936 (by decide) (fun c_936 => ?_) (fun c_936 => ?_)
        · refine jr_iload hX dL_law_975 rfl ?_
          refine jr_iconst (v := 1) hX dL_law_977 (by decide) ?_
          refine jr_icmp_ne (tgt := 994) hX dL_law_978 (by decide) (fun c_978 => ?_) (fun c_978 => absurd c_978 (by decide))
          rw [sm_1 (show q_bi 0 2 I k = 1 from if_pos e3)] at kk
          exact jr_forget (fun _ _ h => h) (fun i v h => by rcases i with _ | _ | _ | _ | _ | _ | _ | _ | _ | _ | _ | _ | _ | _ | _ | _ | _ | _ | _ | _ | _ | _ | _ | _ | _ | _ | _ | _ | _ | i <;> first | exact h | exact absurd h (by simp)) (kk)
        · refine jr_aload hX dL_law_939 rfl ?_
          refine jr_iload hX dL_law_941 rfl ?_
          refine jr_aald (t := 15) hX (by decide) kQ rfl (by omega) (pQ k (by omega)) dL_law_943 ?_
          refine jr_iconst (v := 5) hX dL_law_944 (by decide) ?_
          refine jr_iald hX (kR k (by omega)) (show _ = nI 5 from rfl) (by omega) dL_law_945 ?_
          rw [wQ k (by omega) 5 (by decide)]
          refine jr_iload hX dL_law_946 rfl ?_
          refine jr_isub hX dL_law_948 ?_
          refine jr_mabs (y := 0) hX kM_L_187 dL_law_949 rfl ⟨by first | (dsimp only; omega) | omega, by first | (dsimp only; omega) | omega⟩ ?_
          refine jr_aload hX dL_law_952 rfl ?_
          refine jr_iload hX dL_law_954 rfl ?_
          refine jr_aald (t := 15) hX (by decide) kQ rfl (by omega) (pQ k (by omega)) dL_law_956 ?_
          refine jr_iconst (v := 5) hX dL_law_957 (by decide) ?_
          refine jr_iald hX (kR k (by omega)) (show _ = nI 5 from rfl) (by omega) dL_law_958 ?_
          rw [wQ k (by omega) 5 (by decide)]
          refine jr_aload hX dL_law_959 rfl ?_
          refine jr_iload hX dL_law_961 rfl ?_
          refine jr_aald (t := 15) hX (by decide) kQ rfl (by omega) (pQ k (by omega)) dL_law_963 ?_
          refine jr_iconst (v := 4) hX dL_law_964 (by decide) ?_
          refine jr_iald hX (kR k (by omega)) (show _ = nI 4 from rfl) (by omega) dL_law_965 ?_
          rw [wQ k (by omega) 4 (by decide)]
          refine jr_isub hX dL_law_966 ?_
          refine jr_mabs (y := 0) hX kM_L_187 dL_law_967 rfl ⟨by first | (dsimp only; omega) | omega, by first | (dsimp only; omega) | omega⟩ ?_
          refine jr_icmp_lt (tgt := 975) hX dL_law_970 (by decide) (fun c_970 => ?_) (fun c_970 => absurd (show (if 0 ≤ C (aB 0 k) 6 - nI p then C (aB 0 k) 6 - nI p else 0 - (C (aB 0 k) 6 - nI p)) < (if 0 ≤ C (aB 0 k) 6 - C (aB 0 k) 4 then C (aB 0 k) 6 - C (aB 0 k) 4 else 0 - (C (aB 0 k) 6 - C (aB 0 k) 4)) from by rw [← ep]; exact (ck_ab hg (fun q => c_924 (show 2 ≤ C (aB 0 k) 3 by rw [q]; decide))).2 (fun q => c_936 (by rw [← ep]; exact q))) c_970)
          refine jr_iload hX dL_law_975 rfl ?_
          refine jr_iconst (v := 1) hX dL_law_977 (by decide) ?_
          refine jr_icmp_ne (tgt := 994) hX dL_law_978 (by decide) (fun c_978 => ?_) (fun c_978 => absurd c_978 (by decide))
          rw [sm_1 (show q_bi 0 2 I k = 1 from if_pos e3)] at kk
          exact jr_forget (fun _ _ h => h) (fun i v h => by rcases i with _ | _ | _ | _ | _ | _ | _ | _ | _ | _ | _ | _ | _ | _ | _ | _ | _ | _ | _ | _ | _ | _ | _ | _ | _ | _ | _ | _ | _ | i <;> first | exact h | exact absurd h (by simp)) (kk)
    · refine jr_iload hX dL_law_874 rfl ?_
      refine jr_aload hX dL_law_876 rfl ?_
      refine jr_iload hX dL_law_878 rfl ?_
      refine jr_aald (t := 15) hX (by decide) kQ rfl (by omega) (pQ k (by omega)) dL_law_880 ?_
      refine jr_iconst (v := 4) hX dL_law_881 (by decide) ?_
      refine jr_iald hX (kR k (by omega)) (show _ = nI 4 from rfl) (by omega) dL_law_882 ?_
      rw [wQ k (by omega) 4 (by decide)]
      refine jr_icmp_ne (tgt := 914) hX dL_law_883 (by decide) (fun c_883 => absurd c_883 (show ¬ ¬ nI p = C (aB 0 k) 4 from fun q => q (by rw [← ep]; exact (hg.1 c_871).1))) (fun c_883 => ?_)
      refine jr_iload hX dL_law_886 rfl ?_
      refine jr_aload hX dL_law_888 rfl ?_
      refine jr_iload hX dL_law_890 rfl ?_
      refine jr_aald (t := 15) hX (by decide) kQ rfl (by omega) (pQ k (by omega)) dL_law_892 ?_
      refine jr_bipush (v := 6) hX dL_law_893 (by decide) ?_
      refine jr_iald hX (kR k (by omega)) (show _ = nI 6 from rfl) (by omega) dL_law_895 ?_
      rw [wQ k (by omega) 6 (by decide)]
      refine jr_icmp_eq (tgt := 916) hX dL_law_896 (by decide) (fun c_896 => ?_) (fun c_896 => ?_)
      · refine jr_aload hX dL_law_916 rfl ?_
        refine jr_iload hX dL_law_918 rfl ?_
        refine jr_aald (t := 15) hX (by decide) kQ rfl (by omega) (pQ k (by omega)) dL_law_920 ?_
        refine jr_iconst (v := 3) hX dL_law_921 (by decide) ?_
        refine jr_iald hX (kR k (by omega)) (show _ = nI 3 from rfl) (by omega) dL_law_922 ?_
        rw [wQ k (by omega) 3 (by decide)]
        refine jr_iconst (v := 2) hX dL_law_923 (by decide) ?_
        refine jr_icmp_ge (tgt := 975) hX dL_law_924 (by decide) (fun c_924 => ?_) (fun c_924 => ?_)
        · refine jr_iload hX dL_law_975 rfl ?_
          refine jr_iconst (v := 1) hX dL_law_977 (by decide) ?_
          refine jr_icmp_ne (tgt := 994) hX dL_law_978 (by decide) (fun c_978 => ?_) (fun c_978 => absurd c_978 (by decide))
          rw [sm_1 (show q_bi 0 2 I k = 1 from if_pos e3)] at kk
          exact jr_forget (fun _ _ h => h) (fun i v h => by rcases i with _ | _ | _ | _ | _ | _ | _ | _ | _ | _ | _ | _ | _ | _ | _ | _ | _ | _ | _ | _ | _ | _ | _ | _ | _ | _ | _ | _ | _ | i <;> first | exact h | exact absurd h (by simp)) (kk)
        · refine jr_iload hX dL_law_927 rfl ?_
          refine jr_aload hX dL_law_929 rfl ?_
          refine jr_iload hX dL_law_931 rfl ?_
          refine jr_aald (t := 15) hX (by decide) kQ rfl (by omega) (pQ k (by omega)) dL_law_933 ?_
          refine jr_iconst (v := 4) hX dL_law_934 (by decide) ?_
          refine jr_iald hX (kR k (by omega)) (show _ = nI 4 from rfl) (by omega) dL_law_935 ?_
          rw [wQ k (by omega) 4 (by decide)]
          refine jr_icmp_eq (tgt := 975) hX dL_law_936 (by decide) (fun c_936 => ?_) (fun c_936 => ?_)
          · refine jr_iload hX dL_law_975 rfl ?_
            refine jr_iconst (v := 1) hX dL_law_977 (by decide) ?_
            refine jr_icmp_ne (tgt := 994) hX dL_law_978 (by decide) (fun c_978 => ?_) (fun c_978 => absurd c_978 (by decide))
            rw [sm_1 (show q_bi 0 2 I k = 1 from if_pos e3)] at kk
            exact jr_forget (fun _ _ h => h) (fun i v h => by rcases i with _ | _ | _ | _ | _ | _ | _ | _ | _ | _ | _ | _ | _ | _ | _ | _ | _ | _ | _ | _ | _ | _ | _ | _ | _ | _ | _ | _ | _ | i <;> first | exact h | exact absurd h (by simp)) (kk)
          · refine jr_aload hX dL_law_939 rfl ?_
            refine jr_iload hX dL_law_941 rfl ?_
            refine jr_aald (t := 15) hX (by decide) kQ rfl (by omega) (pQ k (by omega)) dL_law_943 ?_
            refine jr_iconst (v := 5) hX dL_law_944 (by decide) ?_
            refine jr_iald hX (kR k (by omega)) (show _ = nI 5 from rfl) (by omega) dL_law_945 ?_
            rw [wQ k (by omega) 5 (by decide)]
            refine jr_iload hX dL_law_946 rfl ?_
            refine jr_isub hX dL_law_948 ?_
            refine jr_mabs (y := 0) hX kM_L_187 dL_law_949 rfl ⟨by first | (dsimp only; omega) | omega, by first | (dsimp only; omega) | omega⟩ ?_
            refine jr_aload hX dL_law_952 rfl ?_
            refine jr_iload hX dL_law_954 rfl ?_
            refine jr_aald (t := 15) hX (by decide) kQ rfl (by omega) (pQ k (by omega)) dL_law_956 ?_
            refine jr_iconst (v := 5) hX dL_law_957 (by decide) ?_
            refine jr_iald hX (kR k (by omega)) (show _ = nI 5 from rfl) (by omega) dL_law_958 ?_
            rw [wQ k (by omega) 5 (by decide)]
            refine jr_aload hX dL_law_959 rfl ?_
            refine jr_iload hX dL_law_961 rfl ?_
            refine jr_aald (t := 15) hX (by decide) kQ rfl (by omega) (pQ k (by omega)) dL_law_963 ?_
            refine jr_iconst (v := 4) hX dL_law_964 (by decide) ?_
            refine jr_iald hX (kR k (by omega)) (show _ = nI 4 from rfl) (by omega) dL_law_965 ?_
            rw [wQ k (by omega) 4 (by decide)]
            refine jr_isub hX dL_law_966 ?_
            refine jr_mabs (y := 0) hX kM_L_187 dL_law_967 rfl ⟨by first | (dsimp only; omega) | omega, by first | (dsimp only; omega) | omega⟩ ?_
            refine jr_icmp_lt (tgt := 975) hX dL_law_970 (by decide) (fun c_970 => ?_) (fun c_970 => absurd (show (if 0 ≤ C (aB 0 k) 6 - nI p then C (aB 0 k) 6 - nI p else 0 - (C (aB 0 k) 6 - nI p)) < (if 0 ≤ C (aB 0 k) 6 - C (aB 0 k) 4 then C (aB 0 k) 6 - C (aB 0 k) 4 else 0 - (C (aB 0 k) 6 - C (aB 0 k) 4)) from by rw [← ep]; exact (ck_ab hg (fun q => c_924 (show 2 ≤ C (aB 0 k) 3 by rw [q]; decide))).2 (fun q => c_936 (by rw [← ep]; exact q))) c_970)
            refine jr_iload hX dL_law_975 rfl ?_
            refine jr_iconst (v := 1) hX dL_law_977 (by decide) ?_
            refine jr_icmp_ne (tgt := 994) hX dL_law_978 (by decide) (fun c_978 => ?_) (fun c_978 => absurd c_978 (by decide))
            rw [sm_1 (show q_bi 0 2 I k = 1 from if_pos e3)] at kk
            exact jr_forget (fun _ _ h => h) (fun i v h => by rcases i with _ | _ | _ | _ | _ | _ | _ | _ | _ | _ | _ | _ | _ | _ | _ | _ | _ | _ | _ | _ | _ | _ | _ | _ | _ | _ | _ | _ | _ | i <;> first | exact h | exact absurd h (by simp)) (kk)
      · refine jr_iload hX dL_law_899 rfl ?_
        refine jr_aload hX dL_law_901 rfl ?_
        refine jr_iload hX dL_law_903 rfl ?_
        refine jr_aald (t := 15) hX (by decide) kQ rfl (by omega) (pQ k (by omega)) dL_law_905 ?_
        refine jr_bipush (v := 6) hX dL_law_906 (by decide) ?_
        refine jr_iald hX (kR k (by omega)) (show _ = nI 6 from rfl) (by omega) dL_law_908 ?_
        rw [wQ k (by omega) 6 (by decide)]
        refine jr_iconst (v := 1) hX dL_law_909 (by decide) ?_
        refine jr_isub hX dL_law_910 ?_
        refine jr_icmp_eq (tgt := 916) hX dL_law_911 (by decide) (fun c_911 => ?_) (fun c_911 => absurd (show nI t7 = C (aB 0 k) 7 - 1 from by rw [← l7]; exact ((hg.1 c_871).2).resolve_left (fun q => c_896 (by rw [← l7]; exact q))) c_911)
        refine jr_aload hX dL_law_916 rfl ?_
        refine jr_iload hX dL_law_918 rfl ?_
        refine jr_aald (t := 15) hX (by decide) kQ rfl (by omega) (pQ k (by omega)) dL_law_920 ?_
        refine jr_iconst (v := 3) hX dL_law_921 (by decide) ?_
        refine jr_iald hX (kR k (by omega)) (show _ = nI 3 from rfl) (by omega) dL_law_922 ?_
        rw [wQ k (by omega) 3 (by decide)]
        refine jr_iconst (v := 2) hX dL_law_923 (by decide) ?_
        refine jr_icmp_ge (tgt := 975) hX dL_law_924 (by decide) (fun c_924 => ?_) (fun c_924 => ?_)
        · refine jr_iload hX dL_law_975 rfl ?_
          refine jr_iconst (v := 1) hX dL_law_977 (by decide) ?_
          refine jr_icmp_ne (tgt := 994) hX dL_law_978 (by decide) (fun c_978 => ?_) (fun c_978 => absurd c_978 (by decide))
          rw [sm_1 (show q_bi 0 2 I k = 1 from if_pos e3)] at kk
          exact jr_forget (fun _ _ h => h) (fun i v h => by rcases i with _ | _ | _ | _ | _ | _ | _ | _ | _ | _ | _ | _ | _ | _ | _ | _ | _ | _ | _ | _ | _ | _ | _ | _ | _ | _ | _ | _ | _ | i <;> first | exact h | exact absurd h (by simp)) (kk)
        · refine jr_iload hX dL_law_927 rfl ?_
          refine jr_aload hX dL_law_929 rfl ?_
          refine jr_iload hX dL_law_931 rfl ?_
          refine jr_aald (t := 15) hX (by decide) kQ rfl (by omega) (pQ k (by omega)) dL_law_933 ?_
          refine jr_iconst (v := 4) hX dL_law_934 (by decide) ?_
          refine jr_iald hX (kR k (by omega)) (show _ = nI 4 from rfl) (by omega) dL_law_935 ?_
          rw [wQ k (by omega) 4 (by decide)]
          refine jr_icmp_eq (tgt := 975) hX dL_law_936 (by decide) (fun c_936 => ?_) (fun c_936 => ?_)
          · refine jr_iload hX dL_law_975 rfl ?_
            refine jr_iconst (v := 1) hX dL_law_977 (by decide) ?_
            refine jr_icmp_ne (tgt := 994) hX dL_law_978 (by decide) (fun c_978 => ?_) (fun c_978 => absurd c_978 (by decide))
            rw [sm_1 (show q_bi 0 2 I k = 1 from if_pos e3)] at kk
            exact jr_forget (fun _ _ h => h) (fun i v h => by rcases i with _ | _ | _ | _ | _ | _ | _ | _ | _ | _ | _ | _ | _ | _ | _ | _ | _ | _ | _ | _ | _ | _ | _ | _ | _ | _ | _ | _ | _ | i <;> first | exact h | exact absurd h (by simp)) (kk)
          · refine jr_aload hX dL_law_939 rfl ?_
            refine jr_iload hX dL_law_941 rfl ?_
            refine jr_aald (t := 15) hX (by decide) kQ rfl (by omega) (pQ k (by omega)) dL_law_943 ?_
            refine jr_iconst (v := 5) hX dL_law_944 (by decide) ?_
            refine jr_iald hX (kR k (by omega)) (show _ = nI 5 from rfl) (by omega) dL_law_945 ?_
            rw [wQ k (by omega) 5 (by decide)]
            refine jr_iload hX dL_law_946 rfl ?_
            refine jr_isub hX dL_law_948 ?_
            refine jr_mabs (y := 0) hX kM_L_187 dL_law_949 rfl ⟨by first | (dsimp only; omega) | omega, by first | (dsimp only; omega) | omega⟩ ?_
            refine jr_aload hX dL_law_952 rfl ?_
            refine jr_iload hX dL_law_954 rfl ?_
            refine jr_aald (t := 15) hX (by decide) kQ rfl (by omega) (pQ k (by omega)) dL_law_956 ?_
            refine jr_iconst (v := 5) hX dL_law_957 (by decide) ?_
            refine jr_iald hX (kR k (by omega)) (show _ = nI 5 from rfl) (by omega) dL_law_958 ?_
            rw [wQ k (by omega) 5 (by decide)]
            refine jr_aload hX dL_law_959 rfl ?_
            refine jr_iload hX dL_law_961 rfl ?_
            refine jr_aald (t := 15) hX (by decide) kQ rfl (by omega) (pQ k (by omega)) dL_law_963 ?_
            refine jr_iconst (v := 4) hX dL_law_964 (by decide) ?_
            refine jr_iald hX (kR k (by omega)) (show _ = nI 4 from rfl) (by omega) dL_law_965 ?_
            rw [wQ k (by omega) 4 (by decide)]
            refine jr_isub hX dL_law_966 ?_
            refine jr_mabs (y := 0) hX kM_L_187 dL_law_967 rfl ⟨by first | (dsimp only; omega) | omega, by first | (dsimp only; omega) | omega⟩ ?_
            refine jr_icmp_lt (tgt := 975) hX dL_law_970 (by decide) (fun c_970 => ?_) (fun c_970 => absurd (show (if 0 ≤ C (aB 0 k) 6 - nI p then C (aB 0 k) 6 - nI p else 0 - (C (aB 0 k) 6 - nI p)) < (if 0 ≤ C (aB 0 k) 6 - C (aB 0 k) 4 then C (aB 0 k) 6 - C (aB 0 k) 4 else 0 - (C (aB 0 k) 6 - C (aB 0 k) 4)) from by rw [← ep]; exact (ck_ab hg (fun q => c_924 (show 2 ≤ C (aB 0 k) 3 by rw [q]; decide))).2 (fun q => c_936 (by rw [← ep]; exact q))) c_970)
            refine jr_iload hX dL_law_975 rfl ?_
            refine jr_iconst (v := 1) hX dL_law_977 (by decide) ?_
            refine jr_icmp_ne (tgt := 994) hX dL_law_978 (by decide) (fun c_978 => ?_) (fun c_978 => absurd c_978 (by decide))
            rw [sm_1 (show q_bi 0 2 I k = 1 from if_pos e3)] at kk
            exact jr_forget (fun _ _ h => h) (fun i v h => by rcases i with _ | _ | _ | _ | _ | _ | _ | _ | _ | _ | _ | _ | _ | _ | _ | _ | _ | _ | _ | _ | _ | _ | _ | _ | _ | _ | _ | _ | _ | i <;> first | exact h | exact absurd h (by simp)) (kk)
  · refine jr_iload hX dL_law_846 rfl ?_
    refine jr_aload hX dL_law_848 rfl ?_
    refine jr_iload hX dL_law_850 rfl ?_
    refine jr_aald (t := 15) hX (by decide) kQ rfl (by omega) (pQ k (by omega)) dL_law_852 ?_
    refine jr_iconst (v := 4) hX dL_law_853 (by decide) ?_
    refine jr_iald hX (kR k (by omega)) (show _ = nI 4 from rfl) (by omega) dL_law_854 ?_
    rw [wQ k (by omega) 4 (by decide)]
    refine jr_isub hX dL_law_855 ?_
    refine jr_mabs (y := 0) hX kM_L_187 dL_law_856 rfl ⟨by first | (dsimp only; omega) | omega, by first | (dsimp only; omega) | omega⟩ ?_
    refine jr_iconst (v := 1) hX dL_law_859 (by decide) ?_
    refine jr_icmp_gt (tgt := 914) hX dL_law_860 (by decide) (fun c_860 => absurd c_860 (show ¬ 1 < (if 0 ≤ nI p - C (aB 0 k) 4 then nI p - C (aB 0 k) 4 else 0 - (nI p - C (aB 0 k) 4)) from by rw [← ep]; exact (ck_ab hg (fun q => c_843 (show 2 ≤ C (aB 0 k) 3 by rw [q]; decide))).1)) (fun c_860 => ?_)
    refine jr_aload hX dL_law_863 rfl ?_
    refine jr_iload hX dL_law_865 rfl ?_
    refine jr_aald (t := 15) hX (by decide) kQ rfl (by omega) (pQ k (by omega)) dL_law_867 ?_
    refine jr_iconst (v := 3) hX dL_law_868 (by decide) ?_
    refine jr_iald hX (kR k (by omega)) (show _ = nI 3 from rfl) (by omega) dL_law_869 ?_
    rw [wQ k (by omega) 3 (by decide)]
    refine jr_iconst (v := 2) hX dL_law_870 (by decide) ?_
    refine jr_icmp_ne (tgt := 916) hX dL_law_871 (by decide) (fun c_871 => ?_) (fun c_871 => ?_)
    · refine jr_aload hX dL_law_916 rfl ?_
      refine jr_iload hX dL_law_918 rfl ?_
      refine jr_aald (t := 15) hX (by decide) kQ rfl (by omega) (pQ k (by omega)) dL_law_920 ?_
      refine jr_iconst (v := 3) hX dL_law_921 (by decide) ?_
      refine jr_iald hX (kR k (by omega)) (show _ = nI 3 from rfl) (by omega) dL_law_922 ?_
      rw [wQ k (by omega) 3 (by decide)]
      refine jr_iconst (v := 2) hX dL_law_923 (by decide) ?_
      refine jr_icmp_ge (tgt := 975) hX dL_law_924 (by decide) (fun c_924 => ?_) (fun c_924 => ?_)
      · refine jr_iload hX dL_law_975 rfl ?_
        refine jr_iconst (v := 1) hX dL_law_977 (by decide) ?_
        refine jr_icmp_ne (tgt := 994) hX dL_law_978 (by decide) (fun c_978 => ?_) (fun c_978 => absurd c_978 (by decide))
        rw [sm_1 (show q_bi 0 2 I k = 1 from if_pos e3)] at kk
        exact jr_forget (fun _ _ h => h) (fun i v h => by rcases i with _ | _ | _ | _ | _ | _ | _ | _ | _ | _ | _ | _ | _ | _ | _ | _ | _ | _ | _ | _ | _ | _ | _ | _ | _ | _ | _ | _ | _ | i <;> first | exact h | exact absurd h (by simp)) (kk)
      · refine jr_iload hX dL_law_927 rfl ?_
        refine jr_aload hX dL_law_929 rfl ?_
        refine jr_iload hX dL_law_931 rfl ?_
        refine jr_aald (t := 15) hX (by decide) kQ rfl (by omega) (pQ k (by omega)) dL_law_933 ?_
        refine jr_iconst (v := 4) hX dL_law_934 (by decide) ?_
        refine jr_iald hX (kR k (by omega)) (show _ = nI 4 from rfl) (by omega) dL_law_935 ?_
        rw [wQ k (by omega) 4 (by decide)]
        refine jr_icmp_eq (tgt := 975) hX dL_law_936 (by decide) (fun c_936 => ?_) (fun c_936 => ?_)
        · refine jr_iload hX dL_law_975 rfl ?_
          refine jr_iconst (v := 1) hX dL_law_977 (by decide) ?_
          refine jr_icmp_ne (tgt := 994) hX dL_law_978 (by decide) (fun c_978 => ?_) (fun c_978 => absurd c_978 (by decide))
          rw [sm_1 (show q_bi 0 2 I k = 1 from if_pos e3)] at kk
          exact jr_forget (fun _ _ h => h) (fun i v h => by rcases i with _ | _ | _ | _ | _ | _ | _ | _ | _ | _ | _ | _ | _ | _ | _ | _ | _ | _ | _ | _ | _ | _ | _ | _ | _ | _ | _ | _ | _ | i <;> first | exact h | exact absurd h (by simp)) (kk)
        · refine jr_aload hX dL_law_939 rfl ?_
          refine jr_iload hX dL_law_941 rfl ?_
          refine jr_aald (t := 15) hX (by decide) kQ rfl (by omega) (pQ k (by omega)) dL_law_943 ?_
          refine jr_iconst (v := 5) hX dL_law_944 (by decide) ?_
          refine jr_iald hX (kR k (by omega)) (show _ = nI 5 from rfl) (by omega) dL_law_945 ?_
          rw [wQ k (by omega) 5 (by decide)]
          refine jr_iload hX dL_law_946 rfl ?_
          refine jr_isub hX dL_law_948 ?_
          refine jr_mabs (y := 0) hX kM_L_187 dL_law_949 rfl ⟨by first | (dsimp only; omega) | omega, by first | (dsimp only; omega) | omega⟩ ?_
          refine jr_aload hX dL_law_952 rfl ?_
          refine jr_iload hX dL_law_954 rfl ?_
          refine jr_aald (t := 15) hX (by decide) kQ rfl (by omega) (pQ k (by omega)) dL_law_956 ?_
          refine jr_iconst (v := 5) hX dL_law_957 (by decide) ?_
          refine jr_iald hX (kR k (by omega)) (show _ = nI 5 from rfl) (by omega) dL_law_958 ?_
          rw [wQ k (by omega) 5 (by decide)]
          refine jr_aload hX dL_law_959 rfl ?_
          refine jr_iload hX dL_law_961 rfl ?_
          refine jr_aald (t := 15) hX (by decide) kQ rfl (by omega) (pQ k (by omega)) dL_law_963 ?_
          refine jr_iconst (v := 4) hX dL_law_964 (by decide) ?_
          refine jr_iald hX (kR k (by omega)) (show _ = nI 4 from rfl) (by omega) dL_law_965 ?_
          rw [wQ k (by omega) 4 (by decide)]
          refine jr_isub hX dL_law_966 ?_
          refine jr_mabs (y := 0) hX kM_L_187 dL_law_967 rfl ⟨by first | (dsimp only; omega) | omega, by first | (dsimp only; omega) | omega⟩ ?_
          refine jr_icmp_lt (tgt := 975) hX dL_law_970 (by decide) (fun c_970 => ?_) (fun c_970 => absurd (show (if 0 ≤ C (aB 0 k) 6 - nI p then C (aB 0 k) 6 - nI p else 0 - (C (aB 0 k) 6 - nI p)) < (if 0 ≤ C (aB 0 k) 6 - C (aB 0 k) 4 then C (aB 0 k) 6 - C (aB 0 k) 4 else 0 - (C (aB 0 k) 6 - C (aB 0 k) 4)) from by rw [← ep]; exact (ck_ab hg (fun q => c_924 (show 2 ≤ C (aB 0 k) 3 by rw [q]; decide))).2 (fun q => c_936 (by rw [← ep]; exact q))) c_970)
          refine jr_iload hX dL_law_975 rfl ?_
          refine jr_iconst (v := 1) hX dL_law_977 (by decide) ?_
          refine jr_icmp_ne (tgt := 994) hX dL_law_978 (by decide) (fun c_978 => ?_) (fun c_978 => absurd c_978 (by decide))
          rw [sm_1 (show q_bi 0 2 I k = 1 from if_pos e3)] at kk
          exact jr_forget (fun _ _ h => h) (fun i v h => by rcases i with _ | _ | _ | _ | _ | _ | _ | _ | _ | _ | _ | _ | _ | _ | _ | _ | _ | _ | _ | _ | _ | _ | _ | _ | _ | _ | _ | _ | _ | i <;> first | exact h | exact absurd h (by simp)) (kk)
    · refine jr_iload hX dL_law_874 rfl ?_
      refine jr_aload hX dL_law_876 rfl ?_
      refine jr_iload hX dL_law_878 rfl ?_
      refine jr_aald (t := 15) hX (by decide) kQ rfl (by omega) (pQ k (by omega)) dL_law_880 ?_
      refine jr_iconst (v := 4) hX dL_law_881 (by decide) ?_
      refine jr_iald hX (kR k (by omega)) (show _ = nI 4 from rfl) (by omega) dL_law_882 ?_
      rw [wQ k (by omega) 4 (by decide)]
      refine jr_icmp_ne (tgt := 914) hX dL_law_883 (by decide) (fun c_883 => absurd c_883 (show ¬ ¬ nI p = C (aB 0 k) 4 from fun q => q (by rw [← ep]; exact (hg.1 c_871).1))) (fun c_883 => ?_)
      refine jr_iload hX dL_law_886 rfl ?_
      refine jr_aload hX dL_law_888 rfl ?_
      refine jr_iload hX dL_law_890 rfl ?_
      refine jr_aald (t := 15) hX (by decide) kQ rfl (by omega) (pQ k (by omega)) dL_law_892 ?_
      refine jr_bipush (v := 6) hX dL_law_893 (by decide) ?_
      refine jr_iald hX (kR k (by omega)) (show _ = nI 6 from rfl) (by omega) dL_law_895 ?_
      rw [wQ k (by omega) 6 (by decide)]
      refine jr_icmp_eq (tgt := 916) hX dL_law_896 (by decide) (fun c_896 => ?_) (fun c_896 => ?_)
      · refine jr_aload hX dL_law_916 rfl ?_
        refine jr_iload hX dL_law_918 rfl ?_
        refine jr_aald (t := 15) hX (by decide) kQ rfl (by omega) (pQ k (by omega)) dL_law_920 ?_
        refine jr_iconst (v := 3) hX dL_law_921 (by decide) ?_
        refine jr_iald hX (kR k (by omega)) (show _ = nI 3 from rfl) (by omega) dL_law_922 ?_
        rw [wQ k (by omega) 3 (by decide)]
        refine jr_iconst (v := 2) hX dL_law_923 (by decide) ?_
        refine jr_icmp_ge (tgt := 975) hX dL_law_924 (by decide) (fun c_924 => ?_) (fun c_924 => ?_)
        · refine jr_iload hX dL_law_975 rfl ?_
          refine jr_iconst (v := 1) hX dL_law_977 (by decide) ?_
          refine jr_icmp_ne (tgt := 994) hX dL_law_978 (by decide) (fun c_978 => ?_) (fun c_978 => absurd c_978 (by decide))
          rw [sm_1 (show q_bi 0 2 I k = 1 from if_pos e3)] at kk
          exact jr_forget (fun _ _ h => h) (fun i v h => by rcases i with _ | _ | _ | _ | _ | _ | _ | _ | _ | _ | _ | _ | _ | _ | _ | _ | _ | _ | _ | _ | _ | _ | _ | _ | _ | _ | _ | _ | _ | i <;> first | exact h | exact absurd h (by simp)) (kk)
        · refine jr_iload hX dL_law_927 rfl ?_
          refine jr_aload hX dL_law_929 rfl ?_
          refine jr_iload hX dL_law_931 rfl ?_
          refine jr_aald (t := 15) hX (by decide) kQ rfl (by omega) (pQ k (by omega)) dL_law_933 ?_
          refine jr_iconst (v := 4) hX dL_law_934 (by decide) ?_
          refine jr_iald hX (kR k (by omega)) (show _ = nI 4 from rfl) (by omega) dL_law_935 ?_
          rw [wQ k (by omega) 4 (by decide)]
          refine jr_icmp_eq (tgt := 975) hX dL_law_936 (by decide) (fun c_936 => ?_) (fun c_936 => ?_)
          · refine jr_iload hX dL_law_975 rfl ?_
            refine jr_iconst (v := 1) hX dL_law_977 (by decide) ?_
            refine jr_icmp_ne (tgt := 994) hX dL_law_978 (by decide) (fun c_978 => ?_) (fun c_978 => absurd c_978 (by decide))
            rw [sm_1 (show q_bi 0 2 I k = 1 from if_pos e3)] at kk
            exact jr_forget (fun _ _ h => h) (fun i v h => by rcases i with _ | _ | _ | _ | _ | _ | _ | _ | _ | _ | _ | _ | _ | _ | _ | _ | _ | _ | _ | _ | _ | _ | _ | _ | _ | _ | _ | _ | _ | i <;> first | exact h | exact absurd h (by simp)) (kk)
          · refine jr_aload hX dL_law_939 rfl ?_
            refine jr_iload hX dL_law_941 rfl ?_
            refine jr_aald (t := 15) hX (by decide) kQ rfl (by omega) (pQ k (by omega)) dL_law_943 ?_
            refine jr_iconst (v := 5) hX dL_law_944 (by decide) ?_
            refine jr_iald hX (kR k (by omega)) (show _ = nI 5 from rfl) (by omega) dL_law_945 ?_
            rw [wQ k (by omega) 5 (by decide)]
            refine jr_iload hX dL_law_946 rfl ?_
            refine jr_isub hX dL_law_948 ?_
            refine jr_mabs (y := 0) hX kM_L_187 dL_law_949 rfl ⟨by first | (dsimp only; omega) | omega, by first | (dsimp only; omega) | omega⟩ ?_
            refine jr_aload hX dL_law_952 rfl ?_
            refine jr_iload hX dL_law_954 rfl ?_
            refine jr_aald (t := 15) hX (by decide) kQ rfl (by omega) (pQ k (by omega)) dL_law_956 ?_
            refine jr_iconst (v := 5) hX dL_law_957 (by decide) ?_
            refine jr_iald hX (kR k (by omega)) (show _ = nI 5 from rfl) (by omega) dL_law_958 ?_
            rw [wQ k (by omega) 5 (by decide)]
            refine jr_aload hX dL_law_959 rfl ?_
            refine jr_iload hX dL_law_961 rfl ?_
            refine jr_aald (t := 15) hX (by decide) kQ rfl (by omega) (pQ k (by omega)) dL_law_963 ?_
            refine jr_iconst (v := 4) hX dL_law_964 (by decide) ?_
            refine jr_iald hX (kR k (by omega)) (show _ = nI 4 from rfl) (by omega) dL_law_965 ?_
            rw [wQ k (by omega) 4 (by decide)]
            refine jr_isub hX dL_law_966 ?_
            refine jr_mabs (y := 0) hX kM_L_187 dL_law_967 rfl ⟨by first | (dsimp only; omega) | omega, by first | (dsimp only; omega) | omega⟩ ?_
            refine jr_icmp_lt (tgt := 975) hX dL_law_970 (by decide) (fun c_970 => ?_) (fun c_970 => absurd (show (if 0 ≤ C (aB 0 k) 6 - nI p then C (aB 0 k) 6 - nI p else 0 - (C (aB 0 k) 6 - nI p)) < (if 0 ≤ C (aB 0 k) 6 - C (aB 0 k) 4 then C (aB 0 k) 6 - C (aB 0 k) 4 else 0 - (C (aB 0 k) 6 - C (aB 0 k) 4)) from by rw [← ep]; exact (ck_ab hg (fun q => c_924 (show 2 ≤ C (aB 0 k) 3 by rw [q]; decide))).2 (fun q => c_936 (by rw [← ep]; exact q))) c_970)
            refine jr_iload hX dL_law_975 rfl ?_
            refine jr_iconst (v := 1) hX dL_law_977 (by decide) ?_
            refine jr_icmp_ne (tgt := 994) hX dL_law_978 (by decide) (fun c_978 => ?_) (fun c_978 => absurd c_978 (by decide))
            rw [sm_1 (show q_bi 0 2 I k = 1 from if_pos e3)] at kk
            exact jr_forget (fun _ _ h => h) (fun i v h => by rcases i with _ | _ | _ | _ | _ | _ | _ | _ | _ | _ | _ | _ | _ | _ | _ | _ | _ | _ | _ | _ | _ | _ | _ | _ | _ | _ | _ | _ | _ | i <;> first | exact h | exact absurd h (by simp)) (kk)
      · refine jr_iload hX dL_law_899 rfl ?_
        refine jr_aload hX dL_law_901 rfl ?_
        refine jr_iload hX dL_law_903 rfl ?_
        refine jr_aald (t := 15) hX (by decide) kQ rfl (by omega) (pQ k (by omega)) dL_law_905 ?_
        refine jr_bipush (v := 6) hX dL_law_906 (by decide) ?_
        refine jr_iald hX (kR k (by omega)) (show _ = nI 6 from rfl) (by omega) dL_law_908 ?_
        rw [wQ k (by omega) 6 (by decide)]
        refine jr_iconst (v := 1) hX dL_law_909 (by decide) ?_
        refine jr_isub hX dL_law_910 ?_
        refine jr_icmp_eq (tgt := 916) hX dL_law_911 (by decide) (fun c_911 => ?_) (fun c_911 => absurd (show nI t7 = C (aB 0 k) 7 - 1 from by rw [← l7]; exact ((hg.1 c_871).2).resolve_left (fun q => c_896 (by rw [← l7]; exact q))) c_911)
        refine jr_aload hX dL_law_916 rfl ?_
        refine jr_iload hX dL_law_918 rfl ?_
        refine jr_aald (t := 15) hX (by decide) kQ rfl (by omega) (pQ k (by omega)) dL_law_920 ?_
        refine jr_iconst (v := 3) hX dL_law_921 (by decide) ?_
        refine jr_iald hX (kR k (by omega)) (show _ = nI 3 from rfl) (by omega) dL_law_922 ?_
        rw [wQ k (by omega) 3 (by decide)]
        refine jr_iconst (v := 2) hX dL_law_923 (by decide) ?_
        refine jr_icmp_ge (tgt := 975) hX dL_law_924 (by decide) (fun c_924 => ?_) (fun c_924 => ?_)
        · refine jr_iload hX dL_law_975 rfl ?_
          refine jr_iconst (v := 1) hX dL_law_977 (by decide) ?_
          refine jr_icmp_ne (tgt := 994) hX dL_law_978 (by decide) (fun c_978 => ?_) (fun c_978 => absurd c_978 (by decide))
          rw [sm_1 (show q_bi 0 2 I k = 1 from if_pos e3)] at kk
          exact jr_forget (fun _ _ h => h) (fun i v h => by rcases i with _ | _ | _ | _ | _ | _ | _ | _ | _ | _ | _ | _ | _ | _ | _ | _ | _ | _ | _ | _ | _ | _ | _ | _ | _ | _ | _ | _ | _ | i <;> first | exact h | exact absurd h (by simp)) (kk)
        · refine jr_iload hX dL_law_927 rfl ?_
          refine jr_aload hX dL_law_929 rfl ?_
          refine jr_iload hX dL_law_931 rfl ?_
          refine jr_aald (t := 15) hX (by decide) kQ rfl (by omega) (pQ k (by omega)) dL_law_933 ?_
          refine jr_iconst (v := 4) hX dL_law_934 (by decide) ?_
          refine jr_iald hX (kR k (by omega)) (show _ = nI 4 from rfl) (by omega) dL_law_935 ?_
          rw [wQ k (by omega) 4 (by decide)]
          refine jr_icmp_eq (tgt := 975) hX dL_law_936 (by decide) (fun c_936 => ?_) (fun c_936 => ?_)
          · refine jr_iload hX dL_law_975 rfl ?_
            refine jr_iconst (v := 1) hX dL_law_977 (by decide) ?_
            refine jr_icmp_ne (tgt := 994) hX dL_law_978 (by decide) (fun c_978 => ?_) (fun c_978 => absurd c_978 (by decide))
            rw [sm_1 (show q_bi 0 2 I k = 1 from if_pos e3)] at kk
            exact jr_forget (fun _ _ h => h) (fun i v h => by rcases i with _ | _ | _ | _ | _ | _ | _ | _ | _ | _ | _ | _ | _ | _ | _ | _ | _ | _ | _ | _ | _ | _ | _ | _ | _ | _ | _ | _ | _ | i <;> first | exact h | exact absurd h (by simp)) (kk)
          · refine jr_aload hX dL_law_939 rfl ?_
            refine jr_iload hX dL_law_941 rfl ?_
            refine jr_aald (t := 15) hX (by decide) kQ rfl (by omega) (pQ k (by omega)) dL_law_943 ?_
            refine jr_iconst (v := 5) hX dL_law_944 (by decide) ?_
            refine jr_iald hX (kR k (by omega)) (show _ = nI 5 from rfl) (by omega) dL_law_945 ?_
            rw [wQ k (by omega) 5 (by decide)]
            refine jr_iload hX dL_law_946 rfl ?_
            refine jr_isub hX dL_law_948 ?_
            refine jr_mabs (y := 0) hX kM_L_187 dL_law_949 rfl ⟨by first | (dsimp only; omega) | omega, by first | (dsimp only; omega) | omega⟩ ?_
            refine jr_aload hX dL_law_952 rfl ?_
            refine jr_iload hX dL_law_954 rfl ?_
            refine jr_aald (t := 15) hX (by decide) kQ rfl (by omega) (pQ k (by omega)) dL_law_956 ?_
            refine jr_iconst (v := 5) hX dL_law_957 (by decide) ?_
            refine jr_iald hX (kR k (by omega)) (show _ = nI 5 from rfl) (by omega) dL_law_958 ?_
            rw [wQ k (by omega) 5 (by decide)]
            refine jr_aload hX dL_law_959 rfl ?_
            refine jr_iload hX dL_law_961 rfl ?_
            refine jr_aald (t := 15) hX (by decide) kQ rfl (by omega) (pQ k (by omega)) dL_law_963 ?_
            refine jr_iconst (v := 4) hX dL_law_964 (by decide) ?_
            refine jr_iald hX (kR k (by omega)) (show _ = nI 4 from rfl) (by omega) dL_law_965 ?_
            rw [wQ k (by omega) 4 (by decide)]
            refine jr_isub hX dL_law_966 ?_
            refine jr_mabs (y := 0) hX kM_L_187 dL_law_967 rfl ⟨by first | (dsimp only; omega) | omega, by first | (dsimp only; omega) | omega⟩ ?_
            refine jr_icmp_lt (tgt := 975) hX dL_law_970 (by decide) (fun c_970 => ?_) (fun c_970 => absurd (show (if 0 ≤ C (aB 0 k) 6 - nI p then C (aB 0 k) 6 - nI p else 0 - (C (aB 0 k) 6 - nI p)) < (if 0 ≤ C (aB 0 k) 6 - C (aB 0 k) 4 then C (aB 0 k) 6 - C (aB 0 k) 4 else 0 - (C (aB 0 k) 6 - C (aB 0 k) 4)) from by rw [← ep]; exact (ck_ab hg (fun q => c_924 (show 2 ≤ C (aB 0 k) 3 by rw [q]; decide))).2 (fun q => c_936 (by rw [← ep]; exact q))) c_970)
            refine jr_iload hX dL_law_975 rfl ?_
            refine jr_iconst (v := 1) hX dL_law_977 (by decide) ?_
            refine jr_icmp_ne (tgt := 994) hX dL_law_978 (by decide) (fun c_978 => ?_) (fun c_978 => absurd c_978 (by decide))
            rw [sm_1 (show q_bi 0 2 I k = 1 from if_pos e3)] at kk
            exact jr_forget (fun _ _ h => h) (fun i v h => by rcases i with _ | _ | _ | _ | _ | _ | _ | _ | _ | _ | _ | _ | _ | _ | _ | _ | _ | _ | _ | _ | _ | _ | _ | _ | _ | _ | _ | _ | _ | i <;> first | exact h | exact absurd h (by simp)) (kk)
