/-! makers: the model -/
set_option maxHeartbeats 4000000 in
set_option maxRecDepth 100000 in
theorem c_X6_init {l : Launch} (hfl : l.stackTraces = false) {D : jj_D} {n : Nat} {K : jj_K} {I : jj_I} {P : jj_P} {G : jj_G} {a : Nat} (hka : K a = some (6, 0)) (ha : 0 < a ∧ a < n) :
    jj_Met l D yX6_init (jj_ws yX6_init cX6_init 2 none) { frames := 1, cells := 10, slots := 592, locals := 20 } [.ref a] n K I P G (jj_R (none) (n + 10) ((jj_uK (jj_uK (jj_uK (jj_uK (jj_uK (jj_uK (jj_uK (jj_uK (jj_uK (jj_uK K (n) (10, 40)) (n + 1) (10, 8)) (n + 1 + 1) (10, 8)) (n + 1 + 1 + 1) (10, 32)) (n + 1 + 1 + 1 + 1) (10, 8)) (n + 1 + 1 + 1 + 1 + 1) (10, 5)) (n + 1 + 1 + 1 + 1 + 1 + 1) (10, 160)) (n + 1 + 1 + 1 + 1 + 1 + 1 + 1) (10, 120)) (n + 1 + 1 + 1 + 1 + 1 + 1 + 1 + 1) (10, 210)) (n + 1 + 1 + 1 + 1 + 1 + 1 + 1 + 1 + 1) (10, 1))) ((it (fun k J => jj_u J n k 4) (jj_u (jj_uR (jj_uR (jj_uR (jj_uR (jj_uR (jj_uR (jj_uR (jj_uR (jj_uR (jj_uR I (n) (fun _ => 0)) (n + 1) (fun _ => 0)) (n + 1 + 1) (fun _ => 0)) (n + 1 + 1 + 1) (fun _ => 0)) (n + 1 + 1 + 1 + 1) (fun _ => 0)) (n + 1 + 1 + 1 + 1 + 1) (fun _ => 0)) (n + 1 + 1 + 1 + 1 + 1 + 1) (fun _ => 0)) (n + 1 + 1 + 1 + 1 + 1 + 1 + 1) (fun _ => 0)) (n + 1 + 1 + 1 + 1 + 1 + 1 + 1 + 1) (fun _ => 0)) (n + 1 + 1 + 1 + 1 + 1 + 1 + 1 + 1 + 1) (fun _ => 0)) (n + 1 + 1 + 1 + 1 + 1 + 1 + 1 + 1 + 1) 0 0) 40)) ((jj_u (jj_u (jj_u (jj_u (jj_u (jj_u (jj_u (jj_u (jj_u (jj_u P a 1 (some (n))) a 3 (some (n + 1))) a 4 (some (n + 1 + 1))) a 5 (some (n + 1 + 1 + 1))) a 9 (some (n + 1 + 1 + 1 + 1))) a 10 (some (n + 1 + 1 + 1 + 1 + 1))) a 11 (some (n + 1 + 1 + 1 + 1 + 1 + 1))) a 12 (some (n + 1 + 1 + 1 + 1 + 1 + 1 + 1))) a 13 (some (n + 1 + 1 + 1 + 1 + 1 + 1 + 1 + 1))) a 14 (some (n + 1 + 1 + 1 + 1 + 1 + 1 + 1 + 1 + 1)))) (G)) jj_noX := by
  refine jj_of hfl (by decide +kernel) [some (.ref a), none] rfl rfl ?_
  intro X hXl hX hSt
  refine jr_aload_n hX dX6_init_0 rfl ?_
  refine jr_obj hX kM_X6_1 dX6_init_1 rfl ?_
  refine jr_aload_n hX dX6_init_4 rfl ?_
  refine jr_bipush (v := 40) hX dX6_init_5 (by decide) ?_
  refine jr_newI hX kA_int (show _ = nI 40 from rfl) (by omega) dX6_init_7 ⟨jj_b1 rfl, jj_b1 rfl⟩ ?_
  refine jr_putF hX kF_X6_9 rfl rfl (by unfold jj_uK; rw [if_neg (by omega)]; exact hka) (by omega) dX6_init_9 ?_
  refine jr_aload_n hX dX6_init_12 rfl ?_
  refine jr_bipush (v := 8) hX dX6_init_13 (by decide) ?_
  refine jr_newI hX kA_int (show _ = nI 8 from rfl) (by omega) dX6_init_15 ⟨jj_b1 rfl, jj_b1 rfl⟩ ?_
  refine jr_putF hX kF_X6_13 rfl rfl (by unfold jj_uK; rw [if_neg (by omega), if_neg (by omega)]; exact hka) (by omega) dX6_init_17 ?_
  refine jr_aload_n hX dX6_init_20 rfl ?_
  refine jr_bipush (v := 8) hX dX6_init_21 (by decide) ?_
  refine jr_newI hX kA_int (show _ = nI 8 from rfl) (by omega) dX6_init_23 ⟨jj_b1 rfl, jj_b1 rfl⟩ ?_
  refine jr_putF hX kF_X6_16 rfl rfl (by unfold jj_uK; rw [if_neg (by omega), if_neg (by omega), if_neg (by omega)]; exact hka) (by omega) dX6_init_25 ?_
  refine jr_aload_n hX dX6_init_28 rfl ?_
  refine jr_bipush (v := 32) hX dX6_init_29 (by decide) ?_
  refine jr_newI hX kA_int (show _ = nI 32 from rfl) (by omega) dX6_init_31 ⟨jj_b1 rfl, jj_b1 rfl⟩ ?_
  refine jr_putF hX kF_X6_19 rfl rfl (by unfold jj_uK; rw [if_neg (by omega), if_neg (by omega), if_neg (by omega), if_neg (by omega)]; exact hka) (by omega) dX6_init_33 ?_
  refine jr_aload_n hX dX6_init_36 rfl ?_
  refine jr_bipush (v := 8) hX dX6_init_37 (by decide) ?_
  refine jr_newI hX kA_int (show _ = nI 8 from rfl) (by omega) dX6_init_39 ⟨jj_b1 rfl, jj_b1 rfl⟩ ?_
  refine jr_putF hX kF_X6_22 rfl rfl (by unfold jj_uK; rw [if_neg (by omega), if_neg (by omega), if_neg (by omega), if_neg (by omega), if_neg (by omega)]; exact hka) (by omega) dX6_init_41 ?_
  refine jr_aload_n hX dX6_init_44 rfl ?_
  refine jr_iconst (v := 5) hX dX6_init_45 (by decide) ?_
  refine jr_newI hX kA_int (show _ = nI 5 from rfl) (by omega) dX6_init_46 ⟨jj_b1 rfl, jj_b1 rfl⟩ ?_
  refine jr_putF hX kF_X6_25 rfl rfl (by unfold jj_uK; rw [if_neg (by omega), if_neg (by omega), if_neg (by omega), if_neg (by omega), if_neg (by omega), if_neg (by omega)]; exact hka) (by omega) dX6_init_48 ?_
  refine jr_aload_n hX dX6_init_51 rfl ?_
  refine jr_sipush (v := 160) hX dX6_init_52 (by decide) ?_
  refine jr_newI hX kA_int (show _ = nI 160 from rfl) (by omega) dX6_init_55 ⟨jj_b1 rfl, jj_b1 rfl⟩ ?_
  refine jr_putF hX kF_X6_28 rfl rfl (by unfold jj_uK; rw [if_neg (by omega), if_neg (by omega), if_neg (by omega), if_neg (by omega), if_neg (by omega), if_neg (by omega), if_neg (by omega)]; exact hka) (by omega) dX6_init_57 ?_
  refine jr_aload_n hX dX6_init_60 rfl ?_
  refine jr_bipush (v := 120) hX dX6_init_61 (by decide) ?_
  refine jr_newI hX kA_int (show _ = nI 120 from rfl) (by omega) dX6_init_63 ⟨jj_b1 rfl, jj_b1 rfl⟩ ?_
  refine jr_putF hX kF_X6_31 rfl rfl (by unfold jj_uK; rw [if_neg (by omega), if_neg (by omega), if_neg (by omega), if_neg (by omega), if_neg (by omega), if_neg (by omega), if_neg (by omega), if_neg (by omega)]; exact hka) (by omega) dX6_init_65 ?_
  refine jr_aload_n hX dX6_init_68 rfl ?_
  refine jr_sipush (v := 210) hX dX6_init_69 (by decide) ?_
  refine jr_newI hX kA_int (show _ = nI 210 from rfl) (by omega) dX6_init_72 ⟨jj_b1 rfl, jj_b1 rfl⟩ ?_
  refine jr_putF hX kF_X6_34 rfl rfl (by unfold jj_uK; rw [if_neg (by omega), if_neg (by omega), if_neg (by omega), if_neg (by omega), if_neg (by omega), if_neg (by omega), if_neg (by omega), if_neg (by omega), if_neg (by omega)]; exact hka) (by omega) dX6_init_74 ?_
  refine jr_aload_n hX dX6_init_77 rfl ?_
  refine jr_iconst (v := 1) hX dX6_init_78 (by decide) ?_
  refine jr_newI hX kA_int (show _ = nI 1 from rfl) (by omega) dX6_init_79 ⟨jj_b1 rfl, jj_b1 rfl⟩ ?_
  refine jr_dup hX dX6_init_81 rfl ?_
  refine jr_iconst (v := 0) hX dX6_init_82 (by decide) ?_
  refine jr_iconst (v := 0) hX dX6_init_83 (by decide) ?_
  refine jr_iast hX (if_pos rfl) (by omega) (show _ = nI 0 from rfl) (by omega) dX6_init_84 ?_
  refine jr_putF hX kF_X6_37 rfl rfl (by unfold jj_uK; rw [if_neg (by omega), if_neg (by omega), if_neg (by omega), if_neg (by omega), if_neg (by omega), if_neg (by omega), if_neg (by omega), if_neg (by omega), if_neg (by omega), if_neg (by omega)]; exact hka) (by omega) dX6_init_85 ?_
  refine jr_iconst (v := 0) hX dX6_init_88 (by decide) ?_
  refine jr_istore_n hX dX6_init_89 rfl ?_
  have hloop : ∀ k, k ≤ 40 → jj_J X D 2 10 592 (jj_MQ X D { frames := 1, cells := 10, slots := 592, locals := 20 } (jj_R (none) (n + 10) ((jj_uK (jj_uK (jj_uK (jj_uK (jj_uK (jj_uK (jj_uK (jj_uK (jj_uK (jj_uK K (n) (10, 40)) (n + 1) (10, 8)) (n + 1 + 1) (10, 8)) (n + 1 + 1 + 1) (10, 32)) (n + 1 + 1 + 1 + 1) (10, 8)) (n + 1 + 1 + 1 + 1 + 1) (10, 5)) (n + 1 + 1 + 1 + 1 + 1 + 1) (10, 160)) (n + 1 + 1 + 1 + 1 + 1 + 1 + 1) (10, 120)) (n + 1 + 1 + 1 + 1 + 1 + 1 + 1 + 1) (10, 210)) (n + 1 + 1 + 1 + 1 + 1 + 1 + 1 + 1 + 1) (10, 1))) ((it (fun k J => jj_u J n k 4) (jj_u (jj_uR (jj_uR (jj_uR (jj_uR (jj_uR (jj_uR (jj_uR (jj_uR (jj_uR (jj_uR I (n) (fun _ => 0)) (n + 1) (fun _ => 0)) (n + 1 + 1) (fun _ => 0)) (n + 1 + 1 + 1) (fun _ => 0)) (n + 1 + 1 + 1 + 1) (fun _ => 0)) (n + 1 + 1 + 1 + 1 + 1) (fun _ => 0)) (n + 1 + 1 + 1 + 1 + 1 + 1) (fun _ => 0)) (n + 1 + 1 + 1 + 1 + 1 + 1 + 1) (fun _ => 0)) (n + 1 + 1 + 1 + 1 + 1 + 1 + 1 + 1) (fun _ => 0)) (n + 1 + 1 + 1 + 1 + 1 + 1 + 1 + 1 + 1) (fun _ => 0)) (n + 1 + 1 + 1 + 1 + 1 + 1 + 1 + 1 + 1) 0 0) 40)) ((jj_u (jj_u (jj_u (jj_u (jj_u (jj_u (jj_u (jj_u (jj_u (jj_u P a 1 (some (n))) a 3 (some (n + 1))) a 4 (some (n + 1 + 1))) a 5 (some (n + 1 + 1 + 1))) a 9 (some (n + 1 + 1 + 1 + 1))) a 10 (some (n + 1 + 1 + 1 + 1 + 1))) a 11 (some (n + 1 + 1 + 1 + 1 + 1 + 1))) a 12 (some (n + 1 + 1 + 1 + 1 + 1 + 1 + 1))) a 13 (some (n + 1 + 1 + 1 + 1 + 1 + 1 + 1 + 1))) a 14 (some (n + 1 + 1 + 1 + 1 + 1 + 1 + 1 + 1 + 1)))) (G)) jj_noX) (n + 10) ((jj_uK (jj_uK (jj_uK (jj_uK (jj_uK (jj_uK (jj_uK (jj_uK (jj_uK (jj_uK K (n) (10, 40)) (n + 1) (10, 8)) (n + 1 + 1) (10, 8)) (n + 1 + 1 + 1) (10, 32)) (n + 1 + 1 + 1 + 1) (10, 8)) (n + 1 + 1 + 1 + 1 + 1) (10, 5)) (n + 1 + 1 + 1 + 1 + 1 + 1) (10, 160)) (n + 1 + 1 + 1 + 1 + 1 + 1 + 1) (10, 120)) (n + 1 + 1 + 1 + 1 + 1 + 1 + 1 + 1) (10, 210)) (n + 1 + 1 + 1 + 1 + 1 + 1 + 1 + 1 + 1) (10, 1))) ((it (fun k J => jj_u J n k 4) (jj_u (jj_uR (jj_uR (jj_uR (jj_uR (jj_uR (jj_uR (jj_uR (jj_uR (jj_uR (jj_uR I (n) (fun _ => 0)) (n + 1) (fun _ => 0)) (n + 1 + 1) (fun _ => 0)) (n + 1 + 1 + 1) (fun _ => 0)) (n + 1 + 1 + 1 + 1) (fun _ => 0)) (n + 1 + 1 + 1 + 1 + 1) (fun _ => 0)) (n + 1 + 1 + 1 + 1 + 1 + 1) (fun _ => 0)) (n + 1 + 1 + 1 + 1 + 1 + 1 + 1) (fun _ => 0)) (n + 1 + 1 + 1 + 1 + 1 + 1 + 1 + 1) (fun _ => 0)) (n + 1 + 1 + 1 + 1 + 1 + 1 + 1 + 1 + 1) (fun _ => 0)) (n + 1 + 1 + 1 + 1 + 1 + 1 + 1 + 1 + 1) 0 0) k)) ((jj_u (jj_u (jj_u (jj_u (jj_u (jj_u (jj_u (jj_u (jj_u (jj_u P a 1 (some (n))) a 3 (some (n + 1))) a 4 (some (n + 1 + 1))) a 5 (some (n + 1 + 1 + 1))) a 9 (some (n + 1 + 1 + 1 + 1))) a 10 (some (n + 1 + 1 + 1 + 1 + 1))) a 11 (some (n + 1 + 1 + 1 + 1 + 1 + 1))) a 12 (some (n + 1 + 1 + 1 + 1 + 1 + 1 + 1))) a 13 (some (n + 1 + 1 + 1 + 1 + 1 + 1 + 1 + 1))) a 14 (some (n + 1 + 1 + 1 + 1 + 1 + 1 + 1 + 1 + 1)))) (G) 90 [some (.ref a), some (.int (nI k))] [] := by
    refine jj_for (40) _ ?_ (fun k hk ih => ?_)
    · refine jr_iload_n hX dX6_init_90 rfl ?_
      refine jr_bipush (v := 40) hX dX6_init_91 (by decide) ?_
      refine jr_icmp_ge (tgt := 109) hX dX6_init_93 (by decide) (fun c_93 => ?_) (fun c_93 => absurd (by decide) c_93)
      exact jr_vret hX dX6_init_109 rfl rfl ⟨rfl, rfl, rfl, rfl, rfl, rfl⟩
    · refine jr_iload_n hX dX6_init_90 rfl ?_
      refine jr_bipush (v := 40) hX dX6_init_91 (by decide) ?_
      refine jr_icmp_ge (tgt := 109) hX dX6_init_93 (by decide) (fun c_93 => absurd c_93 (show ¬ nI 40 ≤ nI k from nI_ge (by assumption) (by omega))) (fun c_93 => ?_)
      refine jr_aload_n hX dX6_init_96 rfl ?_
      refine jr_getr hX kF_X6_9 rfl (by unfold jj_uK; rw [if_neg (by omega), if_neg (by omega), if_neg (by omega), if_neg (by omega), if_neg (by omega), if_neg (by omega), if_neg (by omega), if_neg (by omega), if_neg (by omega), if_neg (by omega)]; exact hka) (by rw [jj_u_nk (by decide), jj_u_nk (by decide), jj_u_nk (by decide), jj_u_nk (by decide), jj_u_nk (by decide), jj_u_nk (by decide), jj_u_nk (by decide), jj_u_nk (by decide), jj_u_nk (by decide), jj_u_eq]) dX6_init_97 ?_
      refine jr_iload_n hX dX6_init_100 rfl ?_
      refine jr_iconst (v := 4) hX dX6_init_101 (by decide) ?_
      refine jr_iast hX (by unfold jj_uK; rw [if_neg (by omega), if_neg (by omega), if_neg (by omega), if_neg (by omega), if_neg (by omega), if_neg (by omega), if_neg (by omega), if_neg (by omega), if_neg (by omega), if_pos rfl]) (by omega) (by first | with_reducible rfl | with_reducible assumption | rfl) (by omega) dX6_init_102 ?_
      refine jr_iinc hX dX6_init_103 rfl (by first | with_reducible exact jj_inc _ | with_reducible exact jj_inc1 _) rfl ?_
      refine jr_goto (tgt := 90) hX dX6_init_106 (by decide) ?_
      exact ih
  exact hloop 0 (Nat.zero_le _)
