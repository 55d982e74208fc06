/-! the law's day: the boats -/
set_option maxHeartbeats 4000000 in
set_option maxRecDepth 100000 in
theorem lw_boats {X : jj_X} {D : jj_D} {nm : String} {tb : List ExceptionTableEntry} {Q : State → Prop} (hX : jj_Cx X D cL_law RL 29 (some .boolean) nm { frames := 12, cells := 600074, slots := 7301550, locals := 458 } tb) (hSt : jj_St X D) {n cs sl : Nat} {K : jj_K} {I : jj_I} {P : jj_P} {G : jj_G} {A : Nat → Nat} {H M B N t t0 time q d who nA nO nC : Nat} {x : Int32} {C : jj_I} (hv : lv A H M B N n t K I P) (tC : tn_c t0 H M B N C) (he : eqT I (f_pd 0 H B N d C)) (hdC : C (aR 0) 0 = nI d) (hd2 : d + 1 < 2000000000) (hw : lw B C) (hcs : cs + 100 ≤ 600074) (hsl : sl + 200 ≤ 7301550) (kQ : K q = some (15, B)) (pQ : ∀ j, j < B → P q j = some (q + 1 + j)) (kR : ∀ j, j < B → K (q + 1 + j) = some (10, 12)) (wQ : ∀ j, j < B → ∀ w, w < 12 → I (q + 1 + j) w = q_bf j C w) (kb : ∀ k, k < B → ¬ C (aB 0 k) 3 = 3 → ¬ I (aB 0 k) 3 = 3 → dayB H k C I → jj_J X D 29 cs sl Q n K I P G 994 [some (.ref (0)), some (.ref (1)), some (.ref (A 0)), some (.int (nI H)), some (.int (nI B)), some (.int (nI M)), some (.int (nI time)), some (.int (x)), some (.ref (q)), some (.ref (nA)), some (.int (nI who)), some (.ref (nO)), some (.ref (nC)), some (.int (sm (g_go B N C) M)), some (.int (g_cs M C)), some (.int (nI N)), some (.int (sm (s_op C) N)), some (.int (nI d)), some (.int (C (aWm 0) (d % 40))), some (.int (sm (q_bi 0 1 C) B)), some (.int (sm (q_bi 0 3 (f_pd 0 H B N d C)) B - sm (q_bi 0 3 C) B)), some (.int (sm (g_lo C (f_pd 0 H B N d C)) k)), some (.int (sm (g_sk C (f_pd 0 H B N d C)) k)), some (.int (sm (q_bi 0 2 I) (k + 1))), some (.int (nI k)), none, none, none, none] [] → jj_J X D 29 cs sl Q n K I P G 650 [some (.ref (0)), some (.ref (1)), some (.ref (A 0)), some (.int (nI H)), some (.int (nI B)), some (.int (nI M)), some (.int (nI time)), some (.int (x)), some (.ref (q)), some (.ref (nA)), some (.int (nI who)), some (.ref (nO)), some (.ref (nC)), some (.int (sm (g_go B N C) M)), some (.int (g_cs M C)), some (.int (nI N)), some (.int (sm (s_op C) N)), some (.int (nI d)), some (.int (C (aWm 0) (d % 40))), some (.int (sm (q_bi 0 1 C) B)), some (.int (sm (q_bi 0 3 (f_pd 0 H B N d C)) B - sm (q_bi 0 3 C) B)), some (.int (sm (g_lo C (f_pd 0 H B N d C)) k)), some (.int (sm (g_sk C (f_pd 0 H B N d C)) k)), some (.int (sm (q_bi 0 2 I) k)), some (.int (nI k)), some (.int (I (aB 0 k) 3)), some (.int (I (aB 0 k) 4)), some (.int (I (aB 0 k) 7)), none] []) (kk : jj_J X D 29 cs sl Q n K I P G 1000 [some (.ref (0)), some (.ref (1)), some (.ref (A 0)), some (.int (nI H)), some (.int (nI B)), some (.int (nI M)), some (.int (nI time)), some (.int (x)), some (.ref (q)), some (.ref (nA)), some (.int (nI who)), some (.ref (nO)), some (.ref (nC)), some (.int (sm (g_go B N C) M)), some (.int (g_cs M C)), some (.int (nI N)), some (.int (sm (s_op C) N)), some (.int (nI d)), some (.int (C (aWm 0) (d % 40))), some (.int (sm (q_bi 0 1 C) B)), some (.int (sm (q_bi 0 3 (f_pd 0 H B N d C)) B - sm (q_bi 0 3 C) B)), some (.int (sm (g_lo C (f_pd 0 H B N d C)) B)), some (.int (sm (g_sk C (f_pd 0 H B N d C)) B)), some (.int (sm (q_bi 0 2 I) B)), none, none, none, none, none] []) :
    jj_J X D 29 (cs) (sl) Q (n) (K) (I) (P) G 522 [some (.ref (0)), some (.ref (1)), some (.ref (A 0)), some (.int (nI H)), some (.int (nI B)), some (.int (nI M)), some (.int (nI time)), some (.int (x)), some (.ref (q)), some (.ref (nA)), some (.int (nI who)), some (.ref (nO)), some (.ref (nC)), some (.int (sm (g_go B N C) M)), some (.int (g_cs M C)), some (.int (nI N)), some (.int (sm (s_op C) N)), some (.int (nI d)), some (.int (C (aWm 0) (d % 40))), some (.int (sm (q_bi 0 1 C) B)), some (.int (sm (q_bi 0 3 (f_pd 0 H B N d C)) B - sm (q_bi 0 3 C) B)), none, none, none, none, none, none, none, none] [] := by
  obtain ⟨hly, hsy, hms, htc, hdz, hH, hM, hB1, hB9, how⟩ := id hv
  have g0 := sy_lt hsy (t := 0) sv_0
  have hdI : I (aR 0) 0 = nI (d + 1) := by rw [he _ (by simp only [aR]; omega)]; exact pd_dy tC.1 (by decide) hdC
  have eT := he
  obtain ⟨cgo, cc1, cc2, cop, cdb⟩ := ck_sums tC hw he
  obtain ⟨mpos, spos⟩ := ck_pos htc
  have hN30 := hsy.1.2.2.2
  refine jr_iconst (v := 0) hX dL_law_522 (by decide) ?_
  refine jr_istore hX dL_law_523 rfl ?_
  refine jr_iconst (v := 0) hX dL_law_525 (by decide) ?_
  refine jr_istore hX dL_law_526 rfl ?_
  refine jr_iconst (v := 0) hX dL_law_528 (by decide) ?_
  refine jr_istore hX dL_law_529 rfl ?_
  refine jr_iconst (v := 0) hX dL_law_531 (by decide) ?_
  refine jr_istore hX dL_law_532 rfl ?_
  have z1 : ∀ k, k ≤ B → jj_J X D 29 (cs) (sl) Q (n) (K) (I) (P) (G) 534 [some (.ref (0)), some (.ref (1)), some (.ref (A 0)), some (.int (nI H)), some (.int (nI B)), some (.int (nI M)), some (.int (nI time)), some (.int (x)), some (.ref (q)), some (.ref (nA)), some (.int (nI who)), some (.ref (nO)), some (.ref (nC)), some (.int (sm (g_go B N C) M)), some (.int (g_cs M C)), some (.int (nI N)), some (.int (sm (s_op C) N)), some (.int (nI d)), some (.int (C (aWm 0) (d % 40))), some (.int (sm (q_bi 0 1 C) B)), some (.int (sm (q_bi 0 3 (f_pd 0 H B N d C)) B - sm (q_bi 0 3 C) B)), some (.int (sm (g_lo C (f_pd 0 H B N d C)) k)), some (.int (sm (g_sk C (f_pd 0 H B N d C)) k)), some (.int (sm (q_bi 0 2 I) k)), some (.int (nI k)), none, none, none, none] [] := by
    refine jj_for (B) _ ?_ (fun k hk ih => ?_)
    · refine jr_iload hX dL_law_534 rfl ?_
      refine jr_iload hX dL_law_536 rfl ?_
      refine jr_icmp_ge (tgt := 1000) hX dL_law_538 (by decide) (fun c_538 => ?_) (fun c_538 => absurd (nI_le (Nat.le_refl _) (by omega)) c_538)
      exact jr_forget (fun _ _ h => h) (fun i v h => by rcases i with _ | _ | _ | _ | _ | _ | _ | _ | _ | _ | _ | _ | _ | _ | _ | _ | _ | _ | _ | _ | _ | _ | _ | _ | _ | _ | _ | _ | _ | i <;> first | exact h | exact absurd h (by simp)) (kk)
    · have DY := dayB_T he (by omega) (day_d (d := d) tC.1 tC.2.1 hk (hw k hk) (tC.2.2.2.2.1 k hk).1)
      have fI : (f_pd 0 H B N d C) (aB 0 k) 3 = I (aB 0 k) 3 := by rw [he (aB 0 k) (by simp only [aB]; omega)]
      refine jr_iload hX dL_law_534 rfl ?_
      refine jr_iload hX dL_law_536 rfl ?_
      refine jr_icmp_ge (tgt := 1000) hX dL_law_538 (by decide) (fun c_538 => absurd c_538 (nI_ge (by assumption) (by omega))) (fun c_538 => ?_)
      refine jr_aload_n hX dL_law_541 rfl ?_
      refine jr_iload hX dL_law_542 rfl ?_
      refine jr_iconst (v := 3) hX dL_law_544 (by decide) ?_
      refine jr_ret (jr_runV hX hSt kM_L_158 (c_boat_ok (jj_fl hX) hly htc.1 (b := k) (t := 3) (by assumption) (by decide)) rfl rfl (ly_kI hly) ⟨_, _, rfl, by decide⟩ dL_law_545 rfl ⟨by simp only [jj_N]; omega, by simp only [jj_N]; omega⟩ rfl) ?_
      refine jr_istore hX dL_law_548 rfl ?_
      refine jr_aload_n hX dL_law_550 rfl ?_
      refine jr_iload hX dL_law_551 rfl ?_
      refine jr_iconst (v := 4) hX dL_law_553 (by decide) ?_
      refine jr_ret (jr_runV hX hSt kM_L_158 (c_boat_ok (jj_fl hX) hly htc.1 (b := k) (t := 4) (by assumption) (by decide)) rfl rfl (ly_kI hly) ⟨_, _, rfl, by decide⟩ dL_law_554 rfl ⟨by simp only [jj_N]; omega, by simp only [jj_N]; omega⟩ rfl) ?_
      refine jr_istore hX dL_law_557 rfl ?_
      refine jr_aload_n hX dL_law_559 rfl ?_
      refine jr_iload hX dL_law_560 rfl ?_
      refine jr_bipush (v := 6) hX dL_law_562 (by decide) ?_
      refine jr_ret (jr_runV hX hSt kM_L_158 (c_boat_ok (jj_fl hX) hly htc.1 (b := k) (t := 6) (by assumption) (by decide)) rfl rfl (ly_kI hly) ⟨_, _, rfl, by decide⟩ dL_law_564 rfl ⟨by simp only [jj_N]; omega, by simp only [jj_N]; omega⟩ rfl) ?_
      refine jr_istore hX dL_law_567 rfl ?_
      refine jr_aload hX dL_law_569 rfl ?_
      refine jr_iload hX dL_law_571 rfl ?_
      refine jr_aald (t := 15) hX (by decide) kQ rfl (by omega) (pQ k (by omega)) dL_law_573 ?_
      refine jr_iconst (v := 3) hX dL_law_574 (by decide) ?_
      refine jr_iald hX (kR k (by omega)) (show _ = nI 3 from rfl) (by omega) dL_law_575 ?_
      rw [wQ k (by omega) 3 (by decide)]
      refine jr_iconst (v := 3) hX dL_law_576 (by decide) ?_
      refine jr_icmp_ne (tgt := 588) hX dL_law_577 (by decide) (fun c_577 => ?_) (fun c_577 => ?_)
      · refine jr_iload hX dL_law_588 rfl ?_
        refine jr_iconst (v := 3) hX dL_law_590 (by decide) ?_
        refine jr_icmp_ne (tgt := 650) hX dL_law_591 (by decide) (fun c_591 => ?_) (fun c_591 => ?_)
        · have hc3 : ¬ C (aB 0 k) 3 = 3 := c_577
          have hi3 : ¬ I (aB 0 k) 3 = 3 := c_591
          refine kb k (by assumption) hc3 hi3 DY ?_
          rw [sm_1 (show g_lo C (f_pd 0 H B N d C) k = 0 from if_neg (by rw [fI]; exact fun w => hi3 w.2)), sm_1 (show g_sk C (f_pd 0 H B N d C) k = 0 from if_neg (by rw [fI]; exact fun w => hi3 w.2)), Int32.add_zero, Int32.add_zero] at ih
          refine jr_iinc hX dL_law_994 rfl (by first | with_reducible exact jj_inc _ | with_reducible exact jj_inc1 _) rfl ?_
          refine jr_goto (tgt := 534) hX dL_law_997 (by decide) ?_
          exact jr_forget (fun _ _ h => h) (fun i v h => by rcases i with _ | _ | _ | _ | _ | _ | _ | _ | _ | _ | _ | _ | _ | _ | _ | _ | _ | _ | _ | _ | _ | _ | _ | _ | _ | _ | _ | _ | _ | i <;> first | exact h | exact absurd h (by simp)) (ih)
        · have hc3 : ¬ C (aB 0 k) 3 = 3 := c_577
          have hi3 : I (aB 0 k) 3 = 3 := c_591
          obtain ⟨hu, hh, ehu, e6, hd⟩ := DY.2 hc3
          have ht : hu = 1 ∧ I (aB 0 k) 1 = 0 ∧ I (aB 0 k) 4 = -1 ∧ ∀ g, g < 4 → I (aBc 0 k) g = 0 := by
            rcases hd with ⟨-, w1, w2, w3, -, w4⟩ | ⟨w, -⟩
            · exact ⟨w1, w2, w3, w4⟩
            · rw [hi3] at w; rcases w with w | w | w <;> exact absurd w (by decide)
          refine jr_iinc hX dL_law_594 rfl (by first | with_reducible exact jj_inc _ | with_reducible exact jj_inc1 _) rfl ?_
          refine jr_iload hX dL_law_597 rfl ?_
          refine jr_aload hX dL_law_599 rfl ?_
          refine jr_iload hX dL_law_601 rfl ?_
          refine jr_aald (t := 15) hX (by decide) kQ rfl (by omega) (pQ k (by omega)) dL_law_603 ?_
          refine jr_bipush (v := 7) hX dL_law_604 (by decide) ?_
          refine jr_iald hX (kR k (by omega)) (show _ = nI 7 from rfl) (by omega) dL_law_606 ?_
          rw [wQ k (by omega) 7 (by decide)]
          refine jr_iadd hX dL_law_607 ?_
          refine jr_istore hX dL_law_608 rfl ?_
          refine jr_aload hX dL_law_610 rfl ?_
          refine jr_iload hX dL_law_612 rfl ?_
          refine jr_aald (t := 15) hX (by decide) kQ rfl (by omega) (pQ k (by omega)) dL_law_614 ?_
          refine jr_iconst (v := 1) hX dL_law_615 (by decide) ?_
          refine jr_iald hX (kR k (by omega)) (show _ = nI 1 from rfl) (by omega) dL_law_616 ?_
          rw [wQ k (by omega) 1 (by decide)]
          refine jr_iconst (v := 1) hX dL_law_617 (by decide) ?_
          refine jr_icmp_ne (tgt := 648) hX dL_law_618 (by decide) (fun c_618 => absurd c_618 (show ¬ ¬ _ = _ from fun w => w (show C (aB 0 k) 1 = 1 by rw [ehu, ht.1]; rfl))) (fun c_618 => ?_)
          refine jr_aload_n hX dL_law_621 rfl ?_
          refine jr_iload hX dL_law_622 rfl ?_
          refine jr_iconst (v := 1) hX dL_law_624 (by decide) ?_
          refine jr_ret (jr_runV hX hSt kM_L_158 (c_boat_ok (jj_fl hX) hly htc.1 (b := k) (t := 1) (by assumption) (by decide)) rfl rfl (ly_kI hly) ⟨_, _, rfl, by decide⟩ dL_law_625 rfl ⟨by simp only [jj_N]; omega, by simp only [jj_N]; omega⟩ rfl) ?_
          refine jr_if_ne (tgt := 648) hX dL_law_628 (by decide) (fun c_628 => absurd c_628 (show ¬ ¬ _ = _ from fun w => w (show I (aB 0 k) 1 = 0 from ht.2.1))) (fun c_628 => ?_)
          refine jr_aload_n hX dL_law_631 rfl ?_
          refine jr_iload hX dL_law_632 rfl ?_
          refine jr_bipush (v := 7) hX dL_law_634 (by decide) ?_
          refine jr_ret (jr_runV hX hSt kM_L_158 (c_boat_ok (jj_fl hX) hly htc.1 (b := k) (t := 7) (by assumption) (by decide)) rfl rfl (ly_kI hly) ⟨_, _, rfl, by decide⟩ dL_law_636 rfl ⟨by simp only [jj_N]; omega, by simp only [jj_N]; omega⟩ rfl) ?_
          refine jr_if_ne (tgt := 648) hX dL_law_639 (by decide) (fun c_639 => absurd c_639 (show ¬ ¬ _ = _ from fun w => w (show sm (I (aBc 0 k)) 4 = 0 from sm_z ht.2.2.2))) (fun c_639 => ?_)
          refine jr_iload hX dL_law_642 rfl ?_
          refine jr_iconst (v := -1) hX dL_law_644 (by decide) ?_
          refine jr_icmp_eq (tgt := 994) hX dL_law_645 (by decide) (fun c_645 => ?_) (fun c_645 => absurd (show I (aB 0 k) 4 = -1 from ht.2.2.1) c_645)
          refine jr_iinc hX dL_law_994 rfl (by first | with_reducible exact jj_inc _ | with_reducible exact jj_inc1 _) rfl ?_
          refine jr_goto (tgt := 534) hX dL_law_997 (by decide) ?_
          rw [sm_1 (show g_lo C (f_pd 0 H B N d C) k = sm (C (aBc 0 k)) 4 from if_pos (by rw [fI]; exact ⟨hc3, hi3⟩)), sm_1 (show g_sk C (f_pd 0 H B N d C) k = 1 from if_pos (by rw [fI]; exact ⟨hc3, hi3⟩)), sm_1 (show q_bi 0 2 I k = 0 from if_neg (by rw [hi3]; decide))] at ih
          rw [Int32.add_zero] at ih
          exact jr_forget (fun _ _ h => h) (fun i v h => by rcases i with _ | _ | _ | _ | _ | _ | _ | _ | _ | _ | _ | _ | _ | _ | _ | _ | _ | _ | _ | _ | _ | _ | _ | _ | _ | _ | _ | _ | _ | i <;> first | exact h | exact absurd h (by simp)) (ih)
      · have hc3 : C (aB 0 k) 3 = 3 := c_577
        have hi3 : I (aB 0 k) 3 = 3 := by rw [(DY.1 hc3).1]; exact hc3
        refine jr_iload hX dL_law_580 rfl ?_
        refine jr_iconst (v := 3) hX dL_law_582 (by decide) ?_
        refine jr_icmp_eq (tgt := 994) hX dL_law_583 (by decide) (fun c_583 => ?_) (fun c_583 => absurd (show q_bf k I 3 = 3 from hi3) c_583)
        refine jr_iinc hX dL_law_994 rfl (by first | with_reducible exact jj_inc _ | with_reducible exact jj_inc1 _) rfl ?_
        refine jr_goto (tgt := 534) hX dL_law_997 (by decide) ?_
        rw [sm_1 (show g_lo C (f_pd 0 H B N d C) k = 0 from if_neg (by rw [fI]; exact fun w => w.1 hc3)), sm_1 (show g_sk C (f_pd 0 H B N d C) k = 0 from if_neg (by rw [fI]; exact fun w => w.1 hc3)), sm_1 (show q_bi 0 2 I k = 0 from if_neg (by rw [hi3]; decide))] at ih
        rw [Int32.add_zero, Int32.add_zero, Int32.add_zero] at ih
        exact jr_forget (fun _ _ h => h) (fun i v h => by rcases i with _ | _ | _ | _ | _ | _ | _ | _ | _ | _ | _ | _ | _ | _ | _ | _ | _ | _ | _ | _ | _ | _ | _ | _ | _ | _ | _ | _ | _ | i <;> first | exact h | exact absurd h (by simp)) (ih)
  exact z1 0 (Nat.zero_le _)
