/-! makers: a world -/
set_option maxHeartbeats 4000000 in
set_option maxRecDepth 100000 in
theorem c_X4_init {l : Launch} (hfl : l.stackTraces = false) {D : jj_D} {n : Nat} {K : jj_K} {I : jj_I} {P : jj_P} {G : jj_G} {w : Nat} (hk : K (aW w) = some (4, 0)) (hi : ∀ k, I (aW w) k = 0) (hn : n = aW w + 1) :
    jj_Met l D yX4_init (jj_ws yX4_init cX4_init 2 none) { frames := 2, cells := 69, slots := 656, locals := 41 } [.ref (aW w)] n K I P G (fun r n1 K1 I1 P1 G1 => r = none ∧ n1 = aW w + 70 ∧ wi w 70 (fun _ => True) K I P K1 I1 P1 ∧ G1 = G) jj_noX := by
  refine jj_of hfl (by decide +kernel) [some (.ref (aW w)), none] rfl rfl ?_
  intro X hXl hX hSt
  subst hn
  have hp0 : 0 < aW w := aW_0
  have w0 : wi w 1 (fun _ => False) K I P K I P := ⟨by decide, fun o ho => by obtain rfl : o = 0 := (by omega); exact hk, fun t _ _ h => h.elim, fun o ho hc k => by obtain rfl : o = 0 := (by omega); rw [if_neg (by omega)]; exact hi k, fun b hb => ⟨rfl, rfl, rfl⟩, fun b hb => rfl⟩
  refine jr_aload_n hX dX4_init_0 rfl ?_
  refine jr_obj hX kM_X4_3 dX4_init_1 rfl ?_
  refine jr_aload_n hX dX4_init_4 rfl ?_
  refine jr_new hX kN_X4_9 dX4_init_5 ⟨by dsimp only; omega, by simp only [jj_N]; omega⟩ ?_
  have w1 := wi_obj (n := aW w + 1) w0 (by decide) rfl (show ly_Kw 1 = (3, 0) from rfl) (by decide)
  refine jr_dup hX dX4_init_8 rfl ?_
  refine jr_void (jr_runI hX hSt kM_X4_11 (c_X3_init (jj_fl hX) (a := aW w + 1) (if_pos rfl) ⟨by omega, by omega⟩) rfl rfl dX4_init_9 rfl ⟨by simp only [jj_N]; omega, by simp only [jj_N]; omega⟩ rfl) ?_
  refine jj_gz (S := fun K1 I1 P1 => wi w 7 (fun t => 1 < t) K I P K1 I1 P1) (wi_d (wi_riv (n := aW w + 2) w1 (fun t h => h.1.elim) rfl) (fun t t1 t2 t3 => Or.inr ⟨t3, t2⟩)) (fun K1 I1 P1 w1 => ?_)
  refine jj_gn (show _ = aW w + 7 from rfl) ?_
  refine jr_putF hX kF_X4_12 rfl rfl (wi_k w1 (o := 0) (by decide) rfl) aW_0 dX4_init_12 ?_
  have w1 := wi_set (t := 1) (a := aW w) (k := (ly_Rw 1).2) (q := aW w + 1) w1 (by decide) (by decide) rfl rfl rfl
  refine jr_aload_n hX dX4_init_15 rfl ?_
  refine jr_iconst (v := 5) hX dX4_init_16 (by decide) ?_
  refine jr_newO (t := 14) hX hSt kC_X4_18 (by simp [jj_trav]) ⟨by decide, rfl⟩ (show _ = nI 5 from rfl) (by omega) dX4_init_17 ⟨jj_b1 rfl, jj_b1 rfl⟩ ?_
  have w1 := wi_ref (n := aW w + 7) w1 (by decide) rfl (show ly_Kw 7 = (14, 5) from rfl) (by decide)
  refine jr_putF hX kF_X4_20 rfl rfl (wi_k w1 (o := 0) (by decide) rfl) aW_0 dX4_init_20 ?_
  have w1 := wi_set (t := 7) (a := aW w) (k := (ly_Rw 7).2) (q := aW w + 7) w1 (by decide) (by decide) rfl rfl rfl
  refine jr_aload_n hX dX4_init_23 rfl ?_
  refine jr_bipush (v := 10) hX dX4_init_24 (by decide) ?_
  refine jr_newO (t := 12) hX hSt kC_X4_24 (by simp [jj_trav]) ⟨by decide, rfl⟩ (show _ = nI 10 from rfl) (by omega) dX4_init_26 ⟨jj_b1 rfl, jj_b1 rfl⟩ ?_
  have w1 := wi_ref (n := aW w + 8) w1 (by decide) rfl (show ly_Kw 8 = (12, 10) from rfl) (by decide)
  refine jr_putF hX kF_X4_26 rfl rfl (wi_k w1 (o := 0) (by decide) rfl) aW_0 dX4_init_29 ?_
  have w1 := wi_set (t := 8) (a := aW w) (k := (ly_Rw 8).2) (q := aW w + 8) w1 (by decide) (by decide) rfl rfl rfl
  refine jr_aload_n hX dX4_init_32 rfl ?_
  refine jr_bipush (v := 30) hX dX4_init_33 (by decide) ?_
  refine jr_newO (t := 13) hX hSt kC_X4_30 (by simp [jj_trav]) ⟨by decide, rfl⟩ (show _ = nI 30 from rfl) (by omega) dX4_init_35 ⟨jj_b1 rfl, jj_b1 rfl⟩ ?_
  have w1 := wi_ref (n := aW w + 9) w1 (by decide) rfl (show ly_Kw 9 = (13, 30) from rfl) (by decide)
  refine jr_putF hX kF_X4_32 rfl rfl (wi_k w1 (o := 0) (by decide) rfl) aW_0 dX4_init_38 ?_
  have w1 := wi_set (t := 9) (a := aW w) (k := (ly_Rw 9).2) (q := aW w + 9) w1 (by decide) (by decide) rfl rfl rfl
  have w1 := wi_d (d' := fun _ => True) w1 (fun t t1 t2 _ => by
    by_cases e1 : t = 9
    · exact Or.inr e1
    · by_cases e2 : t = 8
      · exact Or.inl ⟨Or.inr e2, e1⟩
      · by_cases e3 : t = 7
        · exact Or.inl ⟨Or.inl ⟨Or.inr e3, e2⟩, e1⟩
        · refine Or.inl ⟨Or.inl ⟨Or.inl ⟨?_, e3⟩, e2⟩, e1⟩
          by_cases e4 : t = 1
          · exact Or.inr e4
          · exact Or.inl (by omega))
  refine jr_iconst (v := 0) hX dX4_init_41 (by decide) ?_
  refine jr_istore_n hX dX4_init_42 rfl ?_
  have hl1 : ∀ k, k ≤ 5 → ∀ (K1 : jj_K) (I1 : jj_I) (P1 : jj_P), wi w (10 + 2 * k) (fun _ => True) K I P K1 I1 P1 → jj_J X D 2 (9 + 2 * k) (146 + 34 * k) (jj_MQ X D { frames := 2, cells := 69, slots := 656, locals := 41 } (fun r n1 K1 I1 P1 G1 => r = none ∧ n1 = aW w + 70 ∧ wi w 70 (fun _ => True) K I P K1 I1 P1 ∧ G1 = G) jj_noX) (aW w + (10 + 2 * k)) (K1) (I1) (P1) (G) 43 [some (.ref (aW w)), some (.int (nI k))] [] := by
    refine jj_for (5) _ ?_ (fun k hk ih => ?_)
    · intro K1 I1 P1 w1
      refine jr_iload_n hX dX4_init_43 rfl ?_
      refine jr_iconst (v := 5) hX dX4_init_44 (by decide) ?_
      refine jr_icmp_ge (tgt := 67) hX dX4_init_45 (by decide) (fun c_45 => ?_) (fun c_45 => absurd (by decide) c_45)
      refine jr_iconst (v := 0) hX dX4_init_67 (by decide) ?_
      refine jr_istore_n hX dX4_init_68 rfl ?_
      have hl2 : ∀ k, k ≤ 10 → ∀ (K1 : jj_K) (I1 : jj_I) (P1 : jj_P), wi w (20 + 2 * k) (fun _ => True) K I P K1 I1 P1 → jj_J X D 2 (19 + 2 * k) (316 + 13 * k) (jj_MQ X D { frames := 2, cells := 69, slots := 656, locals := 41 } (fun r n1 K1 I1 P1 G1 => r = none ∧ n1 = aW w + 70 ∧ wi w 70 (fun _ => True) K I P K1 I1 P1 ∧ G1 = G) jj_noX) (aW w + (20 + 2 * k)) (K1) (I1) (P1) (G) 69 [some (.ref (aW w)), some (.int (nI k))] [] := by
        refine jj_for (10) _ ?_ (fun k hk ih => ?_)
        · intro K1 I1 P1 w1
          refine jr_iload_n hX dX4_init_69 rfl ?_
          refine jr_bipush (v := 10) hX dX4_init_70 (by decide) ?_
          refine jr_icmp_ge (tgt := 94) hX dX4_init_72 (by decide) (fun c_72 => ?_) (fun c_72 => absurd (by decide) c_72)
          refine jr_iconst (v := 0) hX dX4_init_94 (by decide) ?_
          refine jr_istore_n hX dX4_init_95 rfl ?_
          have hl3 : ∀ k, k ≤ 30 → ∀ (K1 : jj_K) (I1 : jj_I) (P1 : jj_P), wi w (40 + 1 * k) (fun _ => True) K I P K1 I1 P1 → jj_J X D 2 (39 + 1 * k) (446 + 7 * k) (jj_MQ X D { frames := 2, cells := 69, slots := 656, locals := 41 } (fun r n1 K1 I1 P1 G1 => r = none ∧ n1 = aW w + 70 ∧ wi w 70 (fun _ => True) K I P K1 I1 P1 ∧ G1 = G) jj_noX) (aW w + (40 + 1 * k)) (K1) (I1) (P1) (G) 96 [some (.ref (aW w)), some (.int (nI k))] [] := by
            refine jj_for (30) _ ?_ (fun k hk ih => ?_)
            · intro K1 I1 P1 w1
              refine jr_iload_n hX dX4_init_96 rfl ?_
              refine jr_bipush (v := 30) hX dX4_init_97 (by decide) ?_
              refine jr_icmp_ge (tgt := 121) hX dX4_init_99 (by decide) (fun c_99 => ?_) (fun c_99 => absurd (by decide) c_99)
              exact jr_vret hX dX4_init_121 (Nat.ble_eq.mpr (by dsimp only; omega)) (Nat.ble_eq.mpr (by dsimp only; omega)) ⟨rfl, rfl, w1, rfl⟩
            · intro K1 I1 P1 w1
              refine jr_iload_n hX dX4_init_96 rfl ?_
              refine jr_bipush (v := 30) hX dX4_init_97 (by decide) ?_
              refine jr_icmp_ge (tgt := 121) hX dX4_init_99 (by decide) (fun c_99 => absurd c_99 (show ¬ nI 30 ≤ nI k from nI_ge (by assumption) (by omega))) (fun c_99 => ?_)
              refine jr_aload_n hX dX4_init_102 rfl ?_
              refine jr_getr hX kF_X4_32 rfl (wi_k w1 (o := 0) (by omega) rfl) (wi_p w1 (t := 9) (by decide) (by omega) trivial (show ly_Rw 9 = (0, 6) from by decide +kernel)) dX4_init_103 ?_
              refine jr_iload_n hX dX4_init_106 rfl ?_
              refine jr_new hX kN_X4_30 dX4_init_107 ⟨by dsimp only; omega, by simp only [jj_N]; omega⟩ ?_
              have w1 := wi_obj (n := aW w + (40 + 1 * k)) w1 (by omega) rfl ((by decide +kernel : ∀ k, k < 30 → ly_Kw (40 + 1 * k) = (1, 0)) k hk) (by omega)
              refine jr_dup hX dX4_init_110 rfl ?_
              refine jr_void (jr_runIN hX hSt kM_X4_38 (c_X1_init (jj_fl hX) (a := aW w + (40 + 1 * k)) (if_pos rfl)) rfl rfl dX4_init_111 rfl ⟨by simp only [jj_N]; omega, by simp only [jj_N]; omega⟩ rfl) ?_
              refine jr_aastO (t := 13) hX ⟨by decide, rfl⟩ (wi_k w1 (o := 9) (by omega) (show ly_Kw 9 = (13, 30) from by decide +kernel)) (by omega) (show _ = nI k from rfl) (by omega) (wi_k w1 (o := 40 + 1 * k) (by omega) ((by decide +kernel : ∀ k, k < 30 → ly_Kw (40 + 1 * k) = (1, 0)) k hk)) ⟨_, _, rfl, by decide⟩ dX4_init_114 ?_
              have w1 := wi_set (t := 40 + 1 * k) (a := aW w + 9) (k := k) (q := aW w + (40 + 1 * k)) w1 (by omega) (by omega) (by rw [((by decide +kernel : ∀ k, k < 30 → ly_Rw (40 + 1 * k) = (9, k)) k hk)]) (by rw [((by decide +kernel : ∀ k, k < 30 → ly_Rw (40 + 1 * k) = (9, k)) k hk)]) rfl
              refine jr_iinc hX dX4_init_115 rfl (by first | with_reducible exact jj_inc _ | with_reducible exact jj_inc1 _) rfl ?_
              refine jr_goto (tgt := 96) hX dX4_init_118 (by decide) ?_
              rw [show 40 + 1 * (k + 1) = 40 + 1 * k + 1 by omega, show 39 + 1 * (k + 1) = 39 + 1 * k + 1 by omega, show 446 + 7 * (k + 1) = 446 + 7 * k + 7 by omega] at ih
              refine jj_gs (show 446 + 7 * k + 7 + 0 = 446 + 7 * k + 7 by omega) ?_
              exact ih _ _ _ (wi_d w1 (fun t t1 t2 _ => by
                by_cases e1 : t = 40 + 1 * k
                · exact Or.inr e1
                · exact Or.inl ⟨trivial, e1⟩))
          refine jj_gn (show _ = aW w + (40 + 1 * 0) from rfl) ?_
          exact hl3 0 (Nat.zero_le _) _ _ _ w1
        · intro K1 I1 P1 w1
          refine jr_iload_n hX dX4_init_69 rfl ?_
          refine jr_bipush (v := 10) hX dX4_init_70 (by decide) ?_
          refine jr_icmp_ge (tgt := 94) hX dX4_init_72 (by decide) (fun c_72 => absurd c_72 (show ¬ nI 10 ≤ nI k from nI_ge (by assumption) (by omega))) (fun c_72 => ?_)
          refine jr_aload_n hX dX4_init_75 rfl ?_
          refine jr_getr hX kF_X4_26 rfl (wi_k w1 (o := 0) (by omega) rfl) (wi_p w1 (t := 8) (by decide) (by omega) trivial (show ly_Rw 8 = (0, 5) from by decide +kernel)) dX4_init_76 ?_
          refine jr_iload_n hX dX4_init_79 rfl ?_
          refine jr_new hX kN_X4_24 dX4_init_80 ⟨by dsimp only; omega, by simp only [jj_N]; omega⟩ ?_
          have w1 := wi_obj (n := aW w + (20 + 2 * k)) w1 (by omega) rfl ((by decide +kernel : ∀ k, k < 10 → ly_Kw (20 + 2 * k) = (0, 0)) k hk) (by omega)
          refine jr_dup hX dX4_init_83 rfl ?_
          refine jr_void (jr_runIN hX hSt kM_X4_37 (c_X0_init (jj_fl hX) (a := aW w + (20 + 2 * k)) (if_pos rfl) ⟨by omega, by omega⟩) rfl rfl dX4_init_84 rfl ⟨by simp only [jj_N]; omega, by simp only [jj_N]; omega⟩ rfl) ?_
          have w1 := wi_int (n := aW w + (20 + 2 * k) + 1) w1 (by omega) rfl ((by decide +kernel : ∀ k, k < 10 → ly_Kw (20 + 2 * k + 1) = (10, 4)) k hk) (by omega)
          have w1 := wi_set (t := 20 + 2 * k + 1) (a := aW w + (20 + 2 * k)) (k := 8) (q := aW w + (20 + 2 * k) + 1) w1 (by omega) (by omega) (by rw [((by decide +kernel : ∀ k, k < 10 → ly_Rw (20 + 2 * k + 1) = (20 + 2 * k, 8)) k hk)]) (by rw [((by decide +kernel : ∀ k, k < 10 → ly_Rw (20 + 2 * k + 1) = (20 + 2 * k, 8)) k hk)]) rfl
          refine jr_aastO (t := 12) hX ⟨by decide, rfl⟩ (wi_k w1 (o := 8) (by omega) (show ly_Kw 8 = (12, 10) from by decide +kernel)) (by omega) (show _ = nI k from rfl) (by omega) (wi_k w1 (o := 20 + 2 * k) (by omega) ((by decide +kernel : ∀ k, k < 10 → ly_Kw (20 + 2 * k) = (0, 0)) k hk)) ⟨_, _, rfl, by decide⟩ dX4_init_87 ?_
          have w1 := wi_set (t := 20 + 2 * k) (a := aW w + 8) (k := k) (q := aW w + (20 + 2 * k)) w1 (by omega) (by omega) (by rw [((by decide +kernel : ∀ k, k < 10 → ly_Rw (20 + 2 * k) = (8, k)) k hk)]) (by rw [((by decide +kernel : ∀ k, k < 10 → ly_Rw (20 + 2 * k) = (8, k)) k hk)]) rfl
          refine jr_iinc hX dX4_init_88 rfl (by first | with_reducible exact jj_inc _ | with_reducible exact jj_inc1 _) rfl ?_
          refine jr_goto (tgt := 69) hX dX4_init_91 (by decide) ?_
          rw [show 20 + 2 * (k + 1) = 20 + 2 * k + 1 + 1 by omega, show 19 + 2 * (k + 1) = 19 + 2 * k + 1 + 1 by omega, show 316 + 13 * (k + 1) = 316 + 13 * k + 13 by omega] at ih
          refine jj_gs (show 316 + 13 * k + 9 + 4 = 316 + 13 * k + 13 by omega) ?_
          exact ih _ _ _ (wi_d w1 (fun t t1 t2 _ => by
            by_cases e1 : t = 20 + 2 * k
            · exact Or.inr e1
            · by_cases e2 : t = 20 + 2 * k + 1
              · exact Or.inl (Or.inr e2)
              · exact Or.inl (Or.inl ⟨⟨trivial, e1⟩, e2⟩)))
      refine jj_gn (show _ = aW w + (20 + 2 * 0) from rfl) ?_
      exact hl2 0 (Nat.zero_le _) _ _ _ w1
    · intro K1 I1 P1 w1
      refine jr_iload_n hX dX4_init_43 rfl ?_
      refine jr_iconst (v := 5) hX dX4_init_44 (by decide) ?_
      refine jr_icmp_ge (tgt := 67) hX dX4_init_45 (by decide) (fun c_45 => absurd c_45 (show ¬ nI 5 ≤ nI k from nI_ge (by assumption) (by omega))) (fun c_45 => ?_)
      refine jr_aload_n hX dX4_init_48 rfl ?_
      refine jr_getr hX kF_X4_20 rfl (wi_k w1 (o := 0) (by omega) rfl) (wi_p w1 (t := 7) (by decide) (by omega) trivial (show ly_Rw 7 = (0, 4) from by decide +kernel)) dX4_init_49 ?_
      refine jr_iload_n hX dX4_init_52 rfl ?_
      refine jr_new hX kN_X4_18 dX4_init_53 ⟨by dsimp only; omega, by simp only [jj_N]; omega⟩ ?_
      have w1 := wi_obj (n := aW w + (10 + 2 * k)) w1 (by omega) rfl ((by decide +kernel : ∀ k, k < 5 → ly_Kw (10 + 2 * k) = (2, 0)) k hk) (by omega)
      refine jr_dup hX dX4_init_56 rfl ?_
      refine jr_void (jr_runIN hX hSt kM_X4_36 (c_X2_init (jj_fl hX) (a := aW w + (10 + 2 * k)) (if_pos rfl) ⟨by omega, by omega⟩) rfl rfl dX4_init_57 rfl ⟨by simp only [jj_N]; omega, by simp only [jj_N]; omega⟩ rfl) ?_
      have w1 := wi_int (n := aW w + (10 + 2 * k) + 1) w1 (by omega) rfl ((by decide +kernel : ∀ k, k < 5 → ly_Kw (10 + 2 * k + 1) = (10, 32)) k hk) (by omega)
      have w1 := wi_set (t := 10 + 2 * k + 1) (a := aW w + (10 + 2 * k)) (k := 1) (q := aW w + (10 + 2 * k) + 1) w1 (by omega) (by omega) (by rw [((by decide +kernel : ∀ k, k < 5 → ly_Rw (10 + 2 * k + 1) = (10 + 2 * k, 1)) k hk)]) (by rw [((by decide +kernel : ∀ k, k < 5 → ly_Rw (10 + 2 * k + 1) = (10 + 2 * k, 1)) k hk)]) rfl
      refine jr_aastO (t := 14) hX ⟨by decide, rfl⟩ (wi_k w1 (o := 7) (by omega) (show ly_Kw 7 = (14, 5) from by decide +kernel)) (by omega) (show _ = nI k from rfl) (by omega) (wi_k w1 (o := 10 + 2 * k) (by omega) ((by decide +kernel : ∀ k, k < 5 → ly_Kw (10 + 2 * k) = (2, 0)) k hk)) ⟨_, _, rfl, by decide⟩ dX4_init_60 ?_
      have w1 := wi_set (t := 10 + 2 * k) (a := aW w + 7) (k := k) (q := aW w + (10 + 2 * k)) w1 (by omega) (by omega) (by rw [((by decide +kernel : ∀ k, k < 5 → ly_Rw (10 + 2 * k) = (7, k)) k hk)]) (by rw [((by decide +kernel : ∀ k, k < 5 → ly_Rw (10 + 2 * k) = (7, k)) k hk)]) rfl
      refine jr_iinc hX dX4_init_61 rfl (by first | with_reducible exact jj_inc _ | with_reducible exact jj_inc1 _) rfl ?_
      refine jr_goto (tgt := 43) hX dX4_init_64 (by decide) ?_
      rw [show 10 + 2 * (k + 1) = 10 + 2 * k + 1 + 1 by omega, show 9 + 2 * (k + 1) = 9 + 2 * k + 1 + 1 by omega, show 146 + 34 * (k + 1) = 146 + 34 * k + 34 by omega] at ih
      refine jj_gs (show 146 + 34 * k + 2 + 32 = 146 + 34 * k + 34 by omega) ?_
      exact ih _ _ _ (wi_d w1 (fun t t1 t2 _ => by
        by_cases e1 : t = 10 + 2 * k
        · exact Or.inr e1
        · by_cases e2 : t = 10 + 2 * k + 1
          · exact Or.inl (Or.inr e2)
          · exact Or.inl (Or.inl ⟨⟨trivial, e1⟩, e2⟩)))
  refine jj_gn (show _ = aW w + (10 + 2 * 0) from rfl) ?_
  exact hl1 0 (Nat.zero_le _) _ _ _ w1
