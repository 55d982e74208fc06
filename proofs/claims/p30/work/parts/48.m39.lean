/-! makers -/
set_option maxHeartbeats 4000000 in
set_option maxRecDepth 100000 in
theorem c_X1_init {l : Launch} (hfl : l.stackTraces = false) {D : jj_D} {n : Nat} {K : jj_K} {I : jj_I} {P : jj_P} {G : jj_G} {a : Nat} (hk : K a = some (1, 0)) :
    jj_Met l D yX1_init (jj_ws yX1_init cX1_init 1 none) { frames := 1, cells := 0, slots := 0, locals := 20 } [.ref a] n K I P G (jj_R (none) (n) (K) (I) (P) (G)) jj_noX := by
  refine jj_of hfl (by decide +kernel) [some (.ref a)] rfl rfl ?_
  intro X hXl hX hSt
  refine jr_aload_n hX dX1_init_0 rfl ?_
  refine jr_obj hX kM_X1_3 dX1_init_1 rfl ?_
  exact jr_vret hX dX1_init_4 rfl rfl ⟨rfl, rfl, rfl, rfl, rfl, rfl⟩
set_option maxHeartbeats 4000000 in
set_option maxRecDepth 100000 in
theorem c_X0_init {l : Launch} (hfl : l.stackTraces = false) {D : jj_D} {n : Nat} {K : jj_K} {I : jj_I} {P : jj_P} {G : jj_G} {a : Nat} (hk : K a = some (0, 0)) (ha : 0 < a ∧ a < n) :
    jj_Met l D yX0_init (jj_ws yX0_init cX0_init 1 none) { frames := 1, cells := 1, slots := 4, locals := 20 } [.ref a] n K I P G (jj_R (none) (n + 1) (jj_uK K n (10, 4)) (jj_uR I n (fun _ => 0)) (jj_u P a 8 (some n)) (G)) jj_noX := by
  refine jj_of hfl (by decide +kernel) [some (.ref a)] rfl rfl ?_
  intro X hXl hX hSt
  refine jr_aload_n hX dX0_init_0 rfl ?_
  refine jr_obj hX kM_X0_3 dX0_init_1 rfl ?_
  refine jr_aload_n hX dX0_init_4 rfl ?_
  refine jr_iconst (v := 4) hX dX0_init_5 (by decide) ?_
  refine jr_newI hX kA_int (show _ = nI 4 from rfl) (by omega) dX0_init_6 ⟨jj_b1 rfl, jj_b1 rfl⟩ ?_
  refine jr_putF hX kF_X0_9 rfl rfl (by unfold jj_uK; rw [if_neg (by omega)]; exact hk) (by omega) dX0_init_8 ?_
  exact jr_vret hX dX0_init_11 rfl rfl ⟨rfl, rfl, rfl, rfl, rfl, rfl⟩
set_option maxHeartbeats 4000000 in
set_option maxRecDepth 100000 in
theorem c_X2_init {l : Launch} (hfl : l.stackTraces = false) {D : jj_D} {n : Nat} {K : jj_K} {I : jj_I} {P : jj_P} {G : jj_G} {a : Nat} (hk : K a = some (2, 0)) (ha : 0 < a ∧ a < n) :
    jj_Met l D yX2_init (jj_ws yX2_init cX2_init 1 none) { frames := 1, cells := 1, slots := 32, locals := 20 } [.ref a] n K I P G (jj_R (none) (n + 1) (jj_uK K n (10, 32)) (jj_uR I n (fun _ => 0)) (jj_u P a 1 (some n)) (G)) jj_noX := by
  refine jj_of hfl (by decide +kernel) [some (.ref a)] rfl rfl ?_
  intro X hXl hX hSt
  refine jr_aload_n hX dX2_init_0 rfl ?_
  refine jr_obj hX kM_X2_3 dX2_init_1 rfl ?_
  refine jr_aload_n hX dX2_init_4 rfl ?_
  refine jr_bipush (v := 32) hX dX2_init_5 (by decide) ?_
  refine jr_newI hX kA_int (show _ = nI 32 from rfl) (by omega) dX2_init_7 ⟨jj_b1 rfl, jj_b1 rfl⟩ ?_
  refine jr_putF hX kF_X2_9 rfl rfl (by unfold jj_uK; rw [if_neg (by omega)]; exact hk) (by omega) dX2_init_9 ?_
  exact jr_vret hX dX2_init_12 rfl rfl ⟨rfl, rfl, rfl, rfl, rfl, rfl⟩
