/-! makers: the river -/
set_option maxHeartbeats 4000000 in
set_option maxRecDepth 100000 in
theorem c_X3_init {l : Launch} (hfl : l.stackTraces = false) {D : jj_D} {n : Nat} {K : jj_K} {I : jj_I} {P : jj_P} {G : jj_G} {a : Nat} (hka : K a = some (3, 0)) (ha : 0 < a ∧ a < n) :
    jj_Met l D yX3_init (jj_ws yX3_init cX3_init 2 none) { frames := 1, cells := 5, slots := 94, locals := 20 } [.ref a] n K I P G (jj_R (none) (n + 5) ((jj_uK (jj_uK (jj_uK (jj_uK (jj_uK K (n) (10, 40)) (n + 1) (10, 7)) (n + 1 + 1) (10, 7)) (n + 1 + 1 + 1) (10, 8)) (n + 1 + 1 + 1 + 1) (10, 32))) ((it (fun k J => jj_u J n k 4) (jj_uR (jj_uR (jj_uR (jj_uR (jj_uR I (n) (fun _ => 0)) (n + 1) (fun _ => 0)) (n + 1 + 1) (fun _ => 0)) (n + 1 + 1 + 1) (fun _ => 0)) (n + 1 + 1 + 1 + 1) (fun _ => 0)) 40)) ((jj_u (jj_u (jj_u (jj_u (jj_u P a 2 (some (n))) a 3 (some (n + 1))) a 4 (some (n + 1 + 1))) a 5 (some (n + 1 + 1 + 1))) a 6 (some (n + 1 + 1 + 1 + 1)))) (G)) jj_noX := by
  refine jj_of hfl (by decide +kernel) [some (.ref a), none] rfl rfl ?_
  intro X hXl hX hSt
  refine jr_aload_n hX dX3_init_0 rfl ?_
  refine jr_obj hX kM_X3_3 dX3_init_1 rfl ?_
  refine jr_aload_n hX dX3_init_4 rfl ?_
  refine jr_bipush (v := 40) hX dX3_init_5 (by decide) ?_
  refine jr_newI hX kA_int (show _ = nI 40 from rfl) (by omega) dX3_init_7 ⟨jj_b1 rfl, jj_b1 rfl⟩ ?_
  refine jr_putF hX kF_X3_9 rfl rfl (by unfold jj_uK; rw [if_neg (by omega)]; exact hka) (by omega) dX3_init_9 ?_
  refine jr_aload_n hX dX3_init_12 rfl ?_
  refine jr_bipush (v := 7) hX dX3_init_13 (by decide) ?_
  refine jr_newI hX kA_int (show _ = nI 7 from rfl) (by omega) dX3_init_15 ⟨jj_b1 rfl, jj_b1 rfl⟩ ?_
  refine jr_putF hX kF_X3_15 rfl rfl (by unfold jj_uK; rw [if_neg (by omega), if_neg (by omega)]; exact hka) (by omega) dX3_init_17 ?_
  refine jr_aload_n hX dX3_init_20 rfl ?_
  refine jr_bipush (v := 7) hX dX3_init_21 (by decide) ?_
  refine jr_newI hX kA_int (show _ = nI 7 from rfl) (by omega) dX3_init_23 ⟨jj_b1 rfl, jj_b1 rfl⟩ ?_
  refine jr_putF hX kF_X3_18 rfl rfl (by unfold jj_uK; rw [if_neg (by omega), if_neg (by omega), if_neg (by omega)]; exact hka) (by omega) dX3_init_25 ?_
  refine jr_aload_n hX dX3_init_28 rfl ?_
  refine jr_bipush (v := 8) hX dX3_init_29 (by decide) ?_
  refine jr_newI hX kA_int (show _ = nI 8 from rfl) (by omega) dX3_init_31 ⟨jj_b1 rfl, jj_b1 rfl⟩ ?_
  refine jr_putF hX kF_X3_21 rfl rfl (by unfold jj_uK; rw [if_neg (by omega), if_neg (by omega), if_neg (by omega), if_neg (by omega)]; exact hka) (by omega) dX3_init_33 ?_
  refine jr_aload_n hX dX3_init_36 rfl ?_
  refine jr_bipush (v := 32) hX dX3_init_37 (by decide) ?_
  refine jr_newI hX kA_int (show _ = nI 32 from rfl) (by omega) dX3_init_39 ⟨jj_b1 rfl, jj_b1 rfl⟩ ?_
  refine jr_putF hX kF_X3_24 rfl rfl (by unfold jj_uK; rw [if_neg (by omega), if_neg (by omega), if_neg (by omega), if_neg (by omega), if_neg (by omega)]; exact hka) (by omega) dX3_init_41 ?_
  refine jr_iconst (v := 0) hX dX3_init_44 (by decide) ?_
  refine jr_istore_n hX dX3_init_45 rfl ?_
  have hloop : ∀ k, k ≤ 40 → jj_J X D 2 5 94 (jj_MQ X D { frames := 1, cells := 5, slots := 94, locals := 20 } (jj_R (none) (n + 5) ((jj_uK (jj_uK (jj_uK (jj_uK (jj_uK K (n) (10, 40)) (n + 1) (10, 7)) (n + 1 + 1) (10, 7)) (n + 1 + 1 + 1) (10, 8)) (n + 1 + 1 + 1 + 1) (10, 32))) ((it (fun k J => jj_u J n k 4) (jj_uR (jj_uR (jj_uR (jj_uR (jj_uR I (n) (fun _ => 0)) (n + 1) (fun _ => 0)) (n + 1 + 1) (fun _ => 0)) (n + 1 + 1 + 1) (fun _ => 0)) (n + 1 + 1 + 1 + 1) (fun _ => 0)) 40)) ((jj_u (jj_u (jj_u (jj_u (jj_u P a 2 (some (n))) a 3 (some (n + 1))) a 4 (some (n + 1 + 1))) a 5 (some (n + 1 + 1 + 1))) a 6 (some (n + 1 + 1 + 1 + 1)))) (G)) jj_noX) (n + 5) ((jj_uK (jj_uK (jj_uK (jj_uK (jj_uK K (n) (10, 40)) (n + 1) (10, 7)) (n + 1 + 1) (10, 7)) (n + 1 + 1 + 1) (10, 8)) (n + 1 + 1 + 1 + 1) (10, 32))) ((it (fun k J => jj_u J n k 4) (jj_uR (jj_uR (jj_uR (jj_uR (jj_uR I (n) (fun _ => 0)) (n + 1) (fun _ => 0)) (n + 1 + 1) (fun _ => 0)) (n + 1 + 1 + 1) (fun _ => 0)) (n + 1 + 1 + 1 + 1) (fun _ => 0)) k)) ((jj_u (jj_u (jj_u (jj_u (jj_u P a 2 (some (n))) a 3 (some (n + 1))) a 4 (some (n + 1 + 1))) a 5 (some (n + 1 + 1 + 1))) a 6 (some (n + 1 + 1 + 1 + 1)))) (G) 46 [some (.ref a), some (.int (nI k))] [] := by
    refine jj_for (40) _ ?_ (fun k hk ih => ?_)
    · refine jr_iload_n hX dX3_init_46 rfl ?_
      refine jr_bipush (v := 40) hX dX3_init_47 (by decide) ?_
      refine jr_icmp_ge (tgt := 65) hX dX3_init_49 (by decide) (fun c_49 => ?_) (fun c_49 => absurd (by decide) c_49)
      exact jr_vret hX dX3_init_65 rfl rfl ⟨rfl, rfl, rfl, rfl, rfl, rfl⟩
    · refine jr_iload_n hX dX3_init_46 rfl ?_
      refine jr_bipush (v := 40) hX dX3_init_47 (by decide) ?_
      refine jr_icmp_ge (tgt := 65) hX dX3_init_49 (by decide) (fun c_49 => absurd c_49 (show ¬ nI 40 ≤ nI k from nI_ge (by assumption) (by omega))) (fun c_49 => ?_)
      refine jr_aload_n hX dX3_init_52 rfl ?_
      refine jr_getr hX kF_X3_9 rfl (by unfold jj_uK; rw [if_neg (by omega), if_neg (by omega), if_neg (by omega), if_neg (by omega), if_neg (by omega)]; exact hka) (by rw [jj_u_nk (by decide), jj_u_nk (by decide), jj_u_nk (by decide), jj_u_nk (by decide), jj_u_eq]) dX3_init_53 ?_
      refine jr_iload_n hX dX3_init_56 rfl ?_
      refine jr_iconst (v := 4) hX dX3_init_57 (by decide) ?_
      refine jr_iast hX (by unfold jj_uK; rw [if_neg (by omega), if_neg (by omega), if_neg (by omega), if_neg (by omega), if_pos rfl]) (by omega) (by first | with_reducible rfl | with_reducible assumption | rfl) (by omega) dX3_init_58 ?_
      refine jr_iinc hX dX3_init_59 rfl (by first | with_reducible exact jj_inc _ | with_reducible exact jj_inc1 _) rfl ?_
      refine jr_goto (tgt := 46) hX dX3_init_62 (by decide) ?_
      exact ih
  exact hloop 0 (Nat.zero_le _)
