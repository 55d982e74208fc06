/-! the law's own river: makers -/
theorem it_Pn {α : Type} {n : Nat} {r : Nat → α} {P : Nat → Nat → α} : ∀ (L : Nat), (∀ k, k < L → it (fun j R => jj_u R n j (r j)) P L n k = r k) ∧ (∀ k, L ≤ k → it (fun j R => jj_u R n j (r j)) P L n k = P n k) ∧ ∀ b, b ≠ n → it (fun j R => jj_u R n j (r j)) P L b = P b
  | 0 => ⟨fun k h => absurd h (Nat.not_lt_zero _), fun _ _ => rfl, fun _ _ => rfl⟩
  | L + 1 => by
    obtain ⟨h1, h2, h3⟩ := it_Pn (n := n) (r := r) (P := P) L
    refine ⟨fun k hk => ?_, fun k hk => ?_, fun b hb => ?_⟩
    · show jj_u (it (fun j R => jj_u R n j (r j)) P L) n L (r L) n k = r k
      by_cases e : k = L
      · subst e; exact jj_u_eq
      · rw [jj_u_nk e]; exact h1 k (by omega)
    · show jj_u (it (fun j R => jj_u R n j (r j)) P L) n L (r L) n k = _
      rw [jj_u_nk (by omega)]; exact h2 k (by omega)
    · show jj_u (it (fun j R => jj_u R n j (r j)) P L) n L (r L) b = _
      rw [jj_u_ne hb]; exact h3 b hb
set_option maxHeartbeats 4000000 in
set_option maxRecDepth 100000 in
theorem s_X6_init {l : Launch} (hfl : l.stackTraces = false) {D : jj_D} {n : Nat} {K : jj_K} {I : jj_I} {P : jj_P} {G : jj_G} {a : Nat} (hk : K a = some (6, 0)) (ha : 0 < a ∧ a < n) :
    jj_Met l D yX6_init (jj_ws yX6_init cX6_init 1 none) { frames := 1, cells := 1, slots := 4, locals := 20 } [.ref a] n K I P G (jj_R (none) (n + 1) (jj_uK K n (10, 4)) (jj_uR (jj_u I a 1 20) n (fun _ => 0)) (jj_u P a 8 (some n)) (G)) jj_noX := by
  refine jj_of hfl (by decide +kernel) [some (.ref a)] rfl rfl ?_
  intro X hXl hX hSt
  refine jr_aload_n hX dX6_init_0 rfl ?_
  refine jr_obj hX kM_X6_1 dX6_init_1 rfl ?_
  refine jr_aload_n hX dX6_init_4 rfl ?_
  refine jr_bipush (v := 20) hX dX6_init_5 (by decide) ?_
  refine jr_puti hX kF_X6_7 rfl hk ha.1 dX6_init_7 ?_
  refine jr_aload_n hX dX6_init_10 rfl ?_
  refine jr_iconst (v := 4) hX dX6_init_11 (by decide) ?_
  refine jr_newI hX kA_int (show _ = nI 4 from rfl) (by omega) dX6_init_12 ⟨jj_b1 rfl, jj_b1 rfl⟩ ?_
  refine jr_putr hX kF_X6_13 rfl (by unfold jj_uK; rw [if_neg (by omega)]; exact hk) ha.1 dX6_init_14 ?_
  exact jr_vret hX dX6_init_17 rfl rfl ⟨rfl, rfl, rfl, rfl, rfl, rfl⟩
set_option maxHeartbeats 4000000 in
set_option maxRecDepth 100000 in
theorem s_more {l : Launch} (hfl : l.stackTraces = false) {D : jj_D} {n : Nat} {K : jj_K} {I : jj_I} {P : jj_P} {G : jj_G} {a L q z : Nat} {r : Nat → Nat} (ha : K a = some (15, L)) (hL : L ≤ 30) (han : a < n) (hn : 0 < n) (hq : K q = some (10, z)) (hqn : q < n) (hr : ∀ j, j < L → P a j = some (r j) ∧ r j < n ∧ ∃ z, K (r j) = some (10, z)) :
    jj_Met l D yX7_more (jj_ws yX7_more cX7_more 4 (some (.array (.array .int)))) { frames := 0, cells := 1, slots := 31, locals := 0 } [.ref a, .ref q] n K I P G (jj_R (some (.ref n)) (n + 1) (jj_uK K n (15, L + 1)) (I) (jj_u (it (fun j R => jj_u R n j (some (r j))) (jj_uR P n (fun _ => none)) L) n L (some q)) (G)) jj_noX := by
  refine jj_of hfl (by decide +kernel) [some (.ref a), some (.ref q), none, none] rfl rfl ?_
  intro X hXl hX hSt
  refine jr_aload_n hX dX7_more_0 rfl ?_
  refine jr_alen (t := 15) hX (by decide) ha dX7_more_1 ?_
  refine jr_iconst (v := 1) hX dX7_more_2 (by decide) ?_
  refine jr_iadd hX dX7_more_3 ?_
  rw [nI_1]
  refine jr_newII hX hSt kC_X7_13 rfl (by omega) dX7_more_4 ⟨by dsimp only; omega, by dsimp only; omega⟩ ?_
  refine jr_astore_n hX dX7_more_7 rfl ?_
  refine jr_iconst (v := 0) hX dX7_more_8 (by decide) ?_
  refine jr_istore_n hX dX7_more_9 rfl ?_
  have hloop : ∀ k, k ≤ L → jj_J X D 4 (0 + 1) (0 + (L + 1)) (jj_MQ X D { frames := 0, cells := 1, slots := 31, locals := 0 } (jj_R (some (.ref n)) (n + 1) (jj_uK K n (15, L + 1)) (I) (jj_u (it (fun j R => jj_u R n j (some (r j))) (jj_uR P n (fun _ => none)) L) n L (some q)) (G)) jj_noX) (n + 1) (jj_uK K n (15, L + 1)) (I) (it (fun j R => jj_u R n j (some (r j))) (jj_uR P n (fun _ => none)) k) (G) 10 [some (.ref a), some (.ref q), some (.ref n), some (.int (nI k))] [] := by
    refine jj_for (L) _ ?_ (fun k hk ih => ?_)
    · refine jr_iload_n hX dX7_more_10 rfl ?_
      refine jr_aload_n hX dX7_more_11 rfl ?_
      refine jr_alen (t := 15) hX (by decide) (by unfold jj_uK; rw [if_neg (by omega)]; exact ha) dX7_more_12 ?_
      refine jr_icmp_ge (tgt := 28) hX dX7_more_13 (by decide) (fun c_13 => ?_) (fun c_13 => absurd (nI_le (Nat.le_refl _) (by omega)) c_13)
      refine jr_aload_n hX dX7_more_28 rfl ?_
      refine jr_aload_n hX dX7_more_29 rfl ?_
      refine jr_alen (t := 15) hX (by decide) (by unfold jj_uK; rw [if_neg (by omega)]; exact ha) dX7_more_30 ?_
      refine jr_aload_n hX dX7_more_31 rfl ?_
      refine jr_aastI hX hSt (len := L + 1) (z := z) (by unfold jj_uK; rw [if_pos rfl]) hn rfl (by omega) (by unfold jj_uK; rw [if_neg (by omega)]; exact hq) dX7_more_32 ?_
      refine jr_aload_n hX dX7_more_33 rfl ?_
      exact jr_aret hX (Or.inr ⟨_, rfl⟩) dX7_more_34 (Nat.ble_eq.mpr (by first | (dsimp only; omega) | (simp only [jj_N]; omega))) (Nat.ble_eq.mpr (by first | (dsimp only; omega) | (simp only [jj_N]; omega))) ⟨rfl, rfl, rfl, rfl, rfl, rfl⟩
    · obtain ⟨r1, r2, z1, r3⟩ := hr k hk
      refine jr_iload_n hX dX7_more_10 rfl ?_
      refine jr_aload_n hX dX7_more_11 rfl ?_
      refine jr_alen (t := 15) hX (by decide) (by unfold jj_uK; rw [if_neg (by omega)]; exact ha) dX7_more_12 ?_
      refine jr_icmp_ge (tgt := 28) hX dX7_more_13 (by decide) (fun c_13 => absurd c_13 (nI_ge (by assumption) (by omega))) (fun c_13 => ?_)
      refine jr_aload_n hX dX7_more_16 rfl ?_
      refine jr_iload_n hX dX7_more_17 rfl ?_
      refine jr_aload_n hX dX7_more_18 rfl ?_
      refine jr_iload_n hX dX7_more_19 rfl ?_
      refine jr_aald (t := 15) hX (by decide) (by unfold jj_uK; rw [if_neg (by omega)]; exact ha) rfl (by omega) (by rw [(it_Pn k).2.2 a (by omega), jj_uR_ne (by omega)]; exact r1) dX7_more_20 ?_
      refine jr_aastI hX hSt (len := L + 1) (z := z1) (by unfold jj_uK; rw [if_pos rfl]) hn rfl (by omega) (by unfold jj_uK; rw [if_neg (by omega)]; exact r3) dX7_more_21 ?_
      refine jr_iinc hX dX7_more_22 rfl (by first | with_reducible exact jj_inc _ | with_reducible exact jj_inc1 _) rfl ?_
      refine jr_goto (tgt := 10) hX dX7_more_25 (by decide) ?_
      exact ih
  exact hloop 0 (Nat.zero_le _)
set_option maxHeartbeats 4000000 in
set_option maxRecDepth 100000 in
theorem s_build {l : Launch} (hfl : l.stackTraces = false) {D : jj_D} {n : Nat} {K : jj_K} {I : jj_I} {P : jj_P} {G : jj_G} {A : Nat → Nat} {H M B N : Nat} {x y z : Int32} (hsy : sy A H M B N n K P) (hB9 : B < 10) :
    jj_Met l D yX7_build (jj_ws yX7_build cX7_build 6 none) { frames := 2, cells := 3, slots := 23, locals := 40 } [.ref (A 0), .int x, .int y, .int z] n K I P G (jj_R (none) (n + 1 + 1 + 1) (jj_uK (jj_uK (jj_uK K n (17, B + 1)) (n + 1) (6, 0)) (n + 1 + 1) (10, 4)) (jj_u (jj_u (jj_u (jj_u (jj_uR (jj_u (jj_uR I (n + 1) (fun _ => 0)) (n + 1) 1 20) (n + 1 + 1) (fun _ => 0)) (n + 1) 0 x) (n + 1) 2 z) (n + 1) 4 y) (n + 1) 5 y) (jj_u (jj_u (jj_u (jj_uR (it (fun j R => jj_u R n j (some (A (20 + j)))) (jj_uR P n (fun _ => none)) B) (n + 1) (fun _ => none)) (n + 1) 8 (some (n + 1 + 1))) n B (some (n + 1))) (A 0) 6 (some n)) (G)) jj_noX := by
  refine jj_of hfl (by decide +kernel) [some (.ref (A 0)), some (.int x), some (.int y), some (.int z), none, none] rfl rfl ?_
  intro X hXl hX hSt
  obtain ⟨hH8, hM5, hB10, hN30⟩ := id hsy.1
  have z0 := (hsy.2.1 0 _ sy_e0).1
  have z6 := (hsy.2.1 6 _ sy_e6).1
  have zb := fun j (hj : j < B) => (hsy.2.1 _ _ (sy_eB hsy.1 hj)).1
  refine jr_aload_n hX dX7_build_0 rfl ?_
  refine jr_getr hX kF_X7_34 rfl (sy_k0 hsy) (sy_p0_6 hsy) dX7_build_1 ?_
  refine jr_alen (t := 17) hX (by decide) (sy_k6 hsy) dX7_build_4 ?_
  refine jr_iconst (v := 1) hX dX7_build_5 (by decide) ?_
  refine jr_iadd hX dX7_build_6 ?_
  rw [nI_1]
  refine jr_newO (t := 17) hX hSt kC_X7_32 (by simp [jj_trav]) ⟨by decide, rfl⟩ rfl (by omega) dX7_build_7 ⟨by dsimp only; omega, by dsimp only; omega⟩ ?_
  refine jr_astore hX dX7_build_10 rfl ?_
  refine jr_iconst (v := 0) hX dX7_build_12 (by decide) ?_
  refine jr_istore hX dX7_build_13 rfl ?_
  have hloop : ∀ k, k ≤ B → jj_J X D 6 (0 + 1) (0 + (B + 1)) (jj_MQ X D { frames := 2, cells := 3, slots := 23, locals := 40 } (jj_R (none) (n + 1 + 1 + 1) (jj_uK (jj_uK (jj_uK K n (17, B + 1)) (n + 1) (6, 0)) (n + 1 + 1) (10, 4)) (jj_u (jj_u (jj_u (jj_u (jj_uR (jj_u (jj_uR I (n + 1) (fun _ => 0)) (n + 1) 1 20) (n + 1 + 1) (fun _ => 0)) (n + 1) 0 x) (n + 1) 2 z) (n + 1) 4 y) (n + 1) 5 y) (jj_u (jj_u (jj_u (jj_uR (it (fun j R => jj_u R n j (some (A (20 + j)))) (jj_uR P n (fun _ => none)) B) (n + 1) (fun _ => none)) (n + 1) 8 (some (n + 1 + 1))) n B (some (n + 1))) (A 0) 6 (some n)) (G)) jj_noX) (n + 1) (jj_uK K n (17, B + 1)) (I) (it (fun j R => jj_u R n j (some (A (20 + j)))) (jj_uR P n (fun _ => none)) k) (G) 15 [some (.ref (A 0)), some (.int x), some (.int y), some (.int z), some (.ref n), some (.int (nI k))] [] := by
    refine jj_for (B) _ ?_ (fun k hk ih => ?_)
    · refine jr_iload hX dX7_build_15 rfl ?_
      refine jr_aload_n hX dX7_build_17 rfl ?_
      refine jr_getr hX kF_X7_34 rfl (by unfold jj_uK; rw [if_neg (by omega)]; exact sy_k0 hsy) (by rw [(it_Pn _).2.2 _ (by omega), jj_uR_ne (by omega)]; exact sy_p0_6 hsy) dX7_build_18 ?_
      refine jr_alen (t := 17) hX (by decide) (by unfold jj_uK; rw [if_neg (by omega)]; exact sy_k6 hsy) dX7_build_21 ?_
      refine jr_icmp_ge (tgt := 43) hX dX7_build_22 (by decide) (fun c_22 => ?_) (fun c_22 => absurd (nI_le (Nat.le_refl _) (by omega)) c_22)
      refine jr_new hX kN_X7_32 dX7_build_43 ⟨by dsimp only; omega, by simp only [jj_N]; omega⟩ ?_
      refine jr_dup hX dX7_build_46 rfl ?_
      refine jr_void (jr_runIN hX hSt kM_X7_54 (s_X6_init (jj_fl hX) (a := n + 1) (by unfold jj_uK; rw [if_pos rfl]) (by omega)) rfl rfl dX7_build_47 rfl ⟨by simp only [jj_N]; omega, by simp only [jj_N]; omega⟩ rfl) ?_
      refine jr_astore hX dX7_build_50 rfl ?_
      refine jr_aload hX dX7_build_52 rfl ?_
      refine jr_iload_n hX dX7_build_54 rfl ?_
      refine jr_puti hX kF_X7_55 rfl (by unfold jj_uK; rw [if_neg (by omega), if_pos rfl]) (by omega) dX7_build_55 ?_
      refine jr_aload hX dX7_build_58 rfl ?_
      refine jr_iload_n hX dX7_build_60 rfl ?_
      refine jr_puti hX kF_X7_58 rfl (by unfold jj_uK; rw [if_neg (by omega), if_pos rfl]) (by omega) dX7_build_61 ?_
      refine jr_aload hX dX7_build_64 rfl ?_
      refine jr_iload_n hX dX7_build_66 rfl ?_
      refine jr_puti hX kF_X7_61 rfl (by unfold jj_uK; rw [if_neg (by omega), if_pos rfl]) (by omega) dX7_build_67 ?_
      refine jr_aload hX dX7_build_70 rfl ?_
      refine jr_iload_n hX dX7_build_72 rfl ?_
      refine jr_puti hX kF_X7_64 rfl (by unfold jj_uK; rw [if_neg (by omega), if_pos rfl]) (by omega) dX7_build_73 ?_
      refine jr_aload hX dX7_build_76 rfl ?_
      refine jr_aload_n hX dX7_build_78 rfl ?_
      refine jr_getr hX kF_X7_34 rfl (by unfold jj_uK; rw [if_neg (by omega), if_neg (by omega), if_neg (by omega)]; exact sy_k0 hsy) (by rw [jj_u_ne (by omega), jj_uR_ne (by omega), (it_Pn B).2.2 _ (by omega), jj_uR_ne (by omega)]; exact sy_p0_6 hsy) dX7_build_79 ?_
      refine jr_alen (t := 17) hX (by decide) (by unfold jj_uK; rw [if_neg (by omega), if_neg (by omega), if_neg (by omega)]; exact sy_k6 hsy) dX7_build_82 ?_
      refine jr_aload hX dX7_build_83 rfl ?_
      refine jr_aastO (t := 17) (ci := 6) (z := 0) (len := B + 1) hX ⟨by decide, rfl⟩ (by unfold jj_uK; rw [if_neg (by omega), if_neg (by omega), if_pos rfl]) (by omega) rfl (by omega) (by unfold jj_uK; rw [if_neg (by omega), if_pos rfl]) ⟨_, _, rfl, by decide⟩ dX7_build_85 ?_
      refine jr_aload_n hX dX7_build_86 rfl ?_
      refine jr_aload hX dX7_build_87 rfl ?_
      refine jr_putr hX kF_X7_34 rfl (by unfold jj_uK; rw [if_neg (by omega), if_neg (by omega), if_neg (by omega)]; exact sy_k0 hsy) (by omega) dX7_build_89 ?_
      exact jr_vret hX dX7_build_92 (Nat.ble_eq.mpr (by first | (dsimp only; omega) | (simp only [jj_N]; omega))) (Nat.ble_eq.mpr (by first | (dsimp only; omega) | (simp only [jj_N]; omega))) ⟨rfl, rfl, rfl, rfl, rfl, rfl⟩
    · have zk := zb k hk
      refine jr_iload hX dX7_build_15 rfl ?_
      refine jr_aload_n hX dX7_build_17 rfl ?_
      refine jr_getr hX kF_X7_34 rfl (by unfold jj_uK; rw [if_neg (by omega)]; exact sy_k0 hsy) (by rw [(it_Pn _).2.2 _ (by omega), jj_uR_ne (by omega)]; exact sy_p0_6 hsy) dX7_build_18 ?_
      refine jr_alen (t := 17) hX (by decide) (by unfold jj_uK; rw [if_neg (by omega)]; exact sy_k6 hsy) dX7_build_21 ?_
      refine jr_icmp_ge (tgt := 43) hX dX7_build_22 (by decide) (fun c_22 => absurd c_22 (nI_ge (by assumption) (by omega))) (fun c_22 => ?_)
      refine jr_aload hX dX7_build_25 rfl ?_
      refine jr_iload hX dX7_build_27 rfl ?_
      refine jr_aload_n hX dX7_build_29 rfl ?_
      refine jr_getr hX kF_X7_34 rfl (by unfold jj_uK; rw [if_neg (by omega)]; exact sy_k0 hsy) (by rw [(it_Pn _).2.2 _ (by omega), jj_uR_ne (by omega)]; exact sy_p0_6 hsy) dX7_build_30 ?_
      refine jr_iload hX dX7_build_33 rfl ?_
      refine jr_aald (t := 17) hX (by decide) (by unfold jj_uK; rw [if_neg (by omega)]; exact sy_k6 hsy) rfl (by omega) (by rw [(it_Pn _).2.2 _ (by omega), jj_uR_ne (by omega)]; exact sy_qB hsy hk) dX7_build_35 ?_
      refine jr_aastO (t := 17) (ci := 6) (z := 0) hX ⟨by decide, rfl⟩ (by unfold jj_uK; rw [if_pos rfl]) (by omega) rfl (by omega) (by unfold jj_uK; rw [if_neg (by omega)]; exact sy_kB hsy hk) ⟨_, _, rfl, by decide⟩ dX7_build_36 ?_
      refine jr_iinc hX dX7_build_37 rfl (by first | with_reducible exact jj_inc _ | with_reducible exact jj_inc1 _) rfl ?_
      refine jr_goto (tgt := 15) hX dX7_build_40 (by decide) ?_
      exact ih
  exact hloop 0 (Nat.zero_le _)
set_option maxHeartbeats 4000000 in
set_option maxRecDepth 100000 in
theorem s_X7_init {l : Launch} (hfl : l.stackTraces = false) {D : jj_D} {n : Nat} {K : jj_K} {I : jj_I} {P : jj_P} {G : jj_G} {a : Nat} (hka : K a = some (7, 0)) (ha : 0 < a ∧ a < n) :
    jj_Met l D yX7_init (jj_ws yX7_init cX7_init 2 none) { frames := 1, cells := 53, slots := 261, locals := 20 } [.ref a] n K I P G (jj_R (none) (n + 1 + 1 + 1 + 1 + 1 + 46 + 1 + 1) ((jj_uK (jj_uK (mtK (jj_uK (jj_uK (jj_uK (jj_uK (jj_uK K (n) (10, 40)) (n + 1) (15, 0)) (n + 1 + 1) (10, 8)) (n + 1 + 1 + 1) (10, 8)) (n + 1 + 1 + 1 + 1) (10, 0)) (n + 1 + 1 + 1 + 1 + 1)) (n + 1 + 1 + 1 + 1 + 1 + 46) (17, 0)) (n + 1 + 1 + 1 + 1 + 1 + 46 + 1) (15, 0))) (it (fun k J => jj_u J n k 4) (mtI (jj_uR (jj_uR (jj_uR (jj_uR I (n) (fun _ => 0)) (n + 1 + 1) (fun _ => 0)) (n + 1 + 1 + 1) (fun _ => 0)) (n + 1 + 1 + 1 + 1) (fun _ => 0)) (n + 1 + 1 + 1 + 1 + 1)) 40) ((jj_u (jj_uR (jj_u (jj_uR (jj_u (mtP (jj_u (jj_u (jj_u (jj_u (jj_uR (jj_u P a 0 (some (n))) (n + 1) (fun _ => none)) a 1 (some (n + 1))) a 2 (some (n + 1 + 1))) a 3 (some (n + 1 + 1 + 1))) a 4 (some (n + 1 + 1 + 1 + 1))) (n + 1 + 1 + 1 + 1 + 1)) a 5 (some (n + 1 + 1 + 1 + 1 + 1))) (n + 1 + 1 + 1 + 1 + 1 + 46) (fun _ => none)) a 6 (some (n + 1 + 1 + 1 + 1 + 1 + 46))) (n + 1 + 1 + 1 + 1 + 1 + 46 + 1) (fun _ => none)) a 7 (some (n + 1 + 1 + 1 + 1 + 1 + 46 + 1)))) (G)) jj_noX := by
  refine jj_of hfl (by decide +kernel) [some (.ref a), none] rfl rfl ?_
  intro X hXl hX hSt
  have hpw : (jj_u (jj_uR (jj_u (jj_uR (jj_u (mtP (jj_u (jj_u (jj_u (jj_u (jj_uR (jj_u P a 0 (some (n))) (n + 1) (fun _ => none)) a 1 (some (n + 1))) a 2 (some (n + 1 + 1))) a 3 (some (n + 1 + 1 + 1))) a 4 (some (n + 1 + 1 + 1 + 1))) (n + 1 + 1 + 1 + 1 + 1)) a 5 (some (n + 1 + 1 + 1 + 1 + 1))) (n + 1 + 1 + 1 + 1 + 1 + 46) (fun _ => none)) a 6 (some (n + 1 + 1 + 1 + 1 + 1 + 46))) (n + 1 + 1 + 1 + 1 + 1 + 46 + 1) (fun _ => none)) a 7 (some (n + 1 + 1 + 1 + 1 + 1 + 46 + 1))) a 0 = some n := by
    rw [jj_u_nk (by decide), jj_uR_ne (by omega), jj_u_nk (by decide), jj_uR_ne (by omega), jj_u_nk (by decide)]
    simp only [mtP]
    rw [if_neg (by omega), if_neg (by omega), jj_u_nk (by decide), jj_u_nk (by decide), jj_u_nk (by decide), jj_u_nk (by decide), jj_uR_ne (by omega), jj_u_eq]
  refine jr_aload_n hX dX7_init_0 rfl ?_
  refine jr_obj hX kM_X7_1 dX7_init_1 rfl ?_
  refine jr_aload_n hX dX7_init_4 rfl ?_
  refine jr_bipush (v := 40) hX dX7_init_5 (by decide) ?_
  refine jr_newI hX kA_int (show _ = nI 40 from rfl) (by omega) dX7_init_7 ⟨jj_b1 rfl, jj_b1 rfl⟩ ?_
  refine jr_putr hX kF_X7_7 rfl (by simp only [jj_uK, mtK]; rw [if_neg (by omega)]; exact hka) (by omega) dX7_init_9 ?_
  refine jr_aload_n hX dX7_init_12 rfl ?_
  refine jr_iconst (v := 0) hX dX7_init_13 (by decide) ?_
  refine jr_newII hX hSt kC_X7_13 (show _ = nI 0 from rfl) (by omega) dX7_init_14 ⟨jj_b1 rfl, jj_b1 rfl⟩ ?_
  refine jr_putr hX kF_X7_14 rfl (by simp only [jj_uK, mtK]; rw [if_neg (by omega), if_neg (by omega)]; exact hka) (by omega) dX7_init_17 ?_
  refine jr_aload_n hX dX7_init_20 rfl ?_
  refine jr_bipush (v := 8) hX dX7_init_21 (by decide) ?_
  refine jr_newI hX kA_int (show _ = nI 8 from rfl) (by omega) dX7_init_23 ⟨jj_b1 rfl, jj_b1 rfl⟩ ?_
  refine jr_putr hX kF_X7_18 rfl (by simp only [jj_uK, mtK]; rw [if_neg (by omega), if_neg (by omega), if_neg (by omega)]; exact hka) (by omega) dX7_init_25 ?_
  refine jr_aload_n hX dX7_init_28 rfl ?_
  refine jr_bipush (v := 8) hX dX7_init_29 (by decide) ?_
  refine jr_newI hX kA_int (show _ = nI 8 from rfl) (by omega) dX7_init_31 ⟨jj_b1 rfl, jj_b1 rfl⟩ ?_
  refine jr_putr hX kF_X7_21 rfl (by simp only [jj_uK, mtK]; rw [if_neg (by omega), if_neg (by omega), if_neg (by omega), if_neg (by omega)]; exact hka) (by omega) dX7_init_33 ?_
  refine jr_aload_n hX dX7_init_36 rfl ?_
  refine jr_iconst (v := 0) hX dX7_init_37 (by decide) ?_
  refine jr_newI hX kA_int (show _ = nI 0 from rfl) (by omega) dX7_init_38 ⟨jj_b1 rfl, jj_b1 rfl⟩ ?_
  refine jr_putr hX kF_X7_24 rfl (by simp only [jj_uK, mtK]; rw [if_neg (by omega), if_neg (by omega), if_neg (by omega), if_neg (by omega), if_neg (by omega)]; exact hka) (by omega) dX7_init_40 ?_
  refine jr_aload_n hX dX7_init_43 rfl ?_
  refine jr_iconst (v := 5) hX dX7_init_44 (by decide) ?_
  refine jr_bipush (v := 8) hX dX7_init_45 (by decide) ?_
  refine jr_iconst (v := 4) hX dX7_init_47 (by decide) ?_
  refine jr_mt hX hSt kC_X7_27 kA_int dX7_init_48 ⟨jj_b1 rfl, jj_b1 rfl⟩ ?_
  refine jr_putr hX kF_X7_29 rfl (by simp only [jj_uK, mtK]; rw [if_neg (by omega), if_neg (by omega), if_neg (by omega), if_neg (by omega), if_neg (by omega), if_neg (by omega), if_neg (by omega)]; exact hka) (by omega) dX7_init_52 ?_
  refine jr_aload_n hX dX7_init_55 rfl ?_
  refine jr_iconst (v := 0) hX dX7_init_56 (by decide) ?_
  refine jr_newO (t := 17) hX hSt kC_X7_32 (by simp [jj_trav]) ⟨by decide, rfl⟩ (show _ = nI 0 from rfl) (by omega) dX7_init_57 ⟨jj_b1 rfl, jj_b1 rfl⟩ ?_
  refine jr_putr hX kF_X7_34 rfl (by simp only [jj_uK, mtK]; rw [if_neg (by omega), if_neg (by omega), if_neg (by omega), if_neg (by omega), if_neg (by omega), if_neg (by omega), if_neg (by omega), if_neg (by omega)]; exact hka) (by omega) dX7_init_60 ?_
  refine jr_aload_n hX dX7_init_63 rfl ?_
  refine jr_iconst (v := 0) hX dX7_init_64 (by decide) ?_
  refine jr_newII hX hSt kC_X7_13 (show _ = nI 0 from rfl) (by omega) dX7_init_65 ⟨jj_b1 rfl, jj_b1 rfl⟩ ?_
  refine jr_putr hX kF_X7_38 rfl (by simp only [jj_uK, mtK]; rw [if_neg (by omega), if_neg (by omega), if_neg (by omega), if_neg (by omega), if_neg (by omega), if_neg (by omega), if_neg (by omega), if_neg (by omega), if_neg (by omega)]; exact hka) (by omega) dX7_init_68 ?_
  refine jr_iconst (v := 0) hX dX7_init_71 (by decide) ?_
  refine jr_istore_n hX dX7_init_72 rfl ?_
  have hloop : ∀ k, k ≤ 40 → jj_J X D 2 (53) (261) (jj_MQ X D { frames := 1, cells := 53, slots := 261, locals := 20 } (jj_R (none) (n + 1 + 1 + 1 + 1 + 1 + 46 + 1 + 1) ((jj_uK (jj_uK (mtK (jj_uK (jj_uK (jj_uK (jj_uK (jj_uK K (n) (10, 40)) (n + 1) (15, 0)) (n + 1 + 1) (10, 8)) (n + 1 + 1 + 1) (10, 8)) (n + 1 + 1 + 1 + 1) (10, 0)) (n + 1 + 1 + 1 + 1 + 1)) (n + 1 + 1 + 1 + 1 + 1 + 46) (17, 0)) (n + 1 + 1 + 1 + 1 + 1 + 46 + 1) (15, 0))) (it (fun k J => jj_u J n k 4) (mtI (jj_uR (jj_uR (jj_uR (jj_uR I (n) (fun _ => 0)) (n + 1 + 1) (fun _ => 0)) (n + 1 + 1 + 1) (fun _ => 0)) (n + 1 + 1 + 1 + 1) (fun _ => 0)) (n + 1 + 1 + 1 + 1 + 1)) 40) ((jj_u (jj_uR (jj_u (jj_uR (jj_u (mtP (jj_u (jj_u (jj_u (jj_u (jj_uR (jj_u P a 0 (some (n))) (n + 1) (fun _ => none)) a 1 (some (n + 1))) a 2 (some (n + 1 + 1))) a 3 (some (n + 1 + 1 + 1))) a 4 (some (n + 1 + 1 + 1 + 1))) (n + 1 + 1 + 1 + 1 + 1)) a 5 (some (n + 1 + 1 + 1 + 1 + 1))) (n + 1 + 1 + 1 + 1 + 1 + 46) (fun _ => none)) a 6 (some (n + 1 + 1 + 1 + 1 + 1 + 46))) (n + 1 + 1 + 1 + 1 + 1 + 46 + 1) (fun _ => none)) a 7 (some (n + 1 + 1 + 1 + 1 + 1 + 46 + 1)))) (G)) jj_noX) (n + 1 + 1 + 1 + 1 + 1 + 46 + 1 + 1) ((jj_uK (jj_uK (mtK (jj_uK (jj_uK (jj_uK (jj_uK (jj_uK K (n) (10, 40)) (n + 1) (15, 0)) (n + 1 + 1) (10, 8)) (n + 1 + 1 + 1) (10, 8)) (n + 1 + 1 + 1 + 1) (10, 0)) (n + 1 + 1 + 1 + 1 + 1)) (n + 1 + 1 + 1 + 1 + 1 + 46) (17, 0)) (n + 1 + 1 + 1 + 1 + 1 + 46 + 1) (15, 0))) (it (fun k J => jj_u J n k 4) (mtI (jj_uR (jj_uR (jj_uR (jj_uR I (n) (fun _ => 0)) (n + 1 + 1) (fun _ => 0)) (n + 1 + 1 + 1) (fun _ => 0)) (n + 1 + 1 + 1 + 1) (fun _ => 0)) (n + 1 + 1 + 1 + 1 + 1)) k) ((jj_u (jj_uR (jj_u (jj_uR (jj_u (mtP (jj_u (jj_u (jj_u (jj_u (jj_uR (jj_u P a 0 (some (n))) (n + 1) (fun _ => none)) a 1 (some (n + 1))) a 2 (some (n + 1 + 1))) a 3 (some (n + 1 + 1 + 1))) a 4 (some (n + 1 + 1 + 1 + 1))) (n + 1 + 1 + 1 + 1 + 1)) a 5 (some (n + 1 + 1 + 1 + 1 + 1))) (n + 1 + 1 + 1 + 1 + 1 + 46) (fun _ => none)) a 6 (some (n + 1 + 1 + 1 + 1 + 1 + 46))) (n + 1 + 1 + 1 + 1 + 1 + 46 + 1) (fun _ => none)) a 7 (some (n + 1 + 1 + 1 + 1 + 1 + 46 + 1)))) (G) 73 [some (.ref a), some (.int (nI k))] [] := by
    refine jj_for (40) _ ?_ (fun k hk ih => ?_)
    · refine jr_iload_n hX dX7_init_73 rfl ?_
      refine jr_bipush (v := 40) hX dX7_init_74 (by decide) ?_
      refine jr_icmp_ge (tgt := 92) hX dX7_init_76 (by decide) (fun c_76 => ?_) (fun c_76 => absurd (by decide) c_76)
      exact jr_vret hX dX7_init_92 rfl rfl ⟨rfl, rfl, rfl, rfl, rfl, rfl⟩
    · refine jr_iload_n hX dX7_init_73 rfl ?_
      refine jr_bipush (v := 40) hX dX7_init_74 (by decide) ?_
      refine jr_icmp_ge (tgt := 92) hX dX7_init_76 (by decide) (fun c_76 => absurd c_76 (show ¬ nI 40 ≤ nI k from nI_ge (by assumption) (by omega))) (fun c_76 => ?_)
      refine jr_aload_n hX dX7_init_79 rfl ?_
      refine jr_getr hX kF_X7_7 rfl (by simp only [jj_uK, mtK]; rw [if_neg (by omega), if_neg (by omega), if_neg (by omega), if_neg (by omega), if_neg (by omega), if_neg (by omega), if_neg (by omega), if_neg (by omega), if_neg (by omega)]; exact hka) hpw dX7_init_80 ?_
      refine jr_iload_n hX dX7_init_83 rfl ?_
      refine jr_iconst (v := 4) hX dX7_init_84 (by decide) ?_
      refine jr_iast hX (by simp only [jj_uK, mtK]; rw [if_neg (by omega), if_neg (by omega), if_neg (by omega), if_neg (by omega), if_neg (by omega), if_neg (by omega), if_neg (by omega), if_neg (by omega)]; exact if_pos trivial) (by omega) rfl (by omega) dX7_init_85 ?_
      refine jr_iinc hX dX7_init_86 rfl (by first | with_reducible exact jj_inc _ | with_reducible exact jj_inc1 _) rfl ?_
      refine jr_goto (tgt := 73) hX dX7_init_89 (by decide) ?_
      exact ih
  exact hloop 0 (Nat.zero_le _)
