/-! the law's own river: what it tells -/
def s_ar (A : Nat → Nat) (H h : Nat) (I : jj_I) : Int32 := if H < 2 then 0 else if h + 1 < H then I (A 3) (h + 1) else I (A 3) h
def s_in (A : Nat → Nat) (x y : Int32) (I : jj_I) (b : Nat) : Int32 := if I (A (20 + b)) 3 = y ∧ I (A (20 + b)) 4 = x then 1 else 0
def s_su (A : Nat → Nat) (I : jj_I) (b : Nat) : Int32 := if I (A (20 + b)) 3 = 3 then 1 else 0
def s_al (A : Nat → Nat) (b : Nat) (I : jj_I) : Int32 := I (A (40 + b)) 0 + I (A (40 + b)) 1 + I (A (40 + b)) 2 + I (A (40 + b)) 3
theorem sn_i {a b : Nat} (ha : a < 2147483648) (hb : b < 2147483648) : nI a ≤ nI b ↔ a ≤ b := by
  rw [Int32.le_iff_toInt_le, nI_toInt ha, nI_toInt hb]
  omega
theorem sn_il {a b : Nat} (ha : a < 2147483648) (hb : b < 2147483648) : nI a < nI b ↔ a < b := by
  rw [Int32.lt_iff_toInt_lt, nI_toInt ha, nI_toInt hb]
  omega
theorem jm_n1 (h : Nat) : nI h + 1 = nI (h + 1) := jj_inc h
theorem sn_le {H : Nat} (hH : H < 1000) (c : 2 ≤ nI H) : ¬ H < 2 := by
  have := (sn_i (a := 2) (by omega) (by omega)).mp c
  omega
theorem sn_l2 {H : Nat} (hH : H < 1000) (c : ¬ 2 ≤ nI H) : H < 2 := by
  have : ¬ 2 ≤ H := fun h => c ((sn_i (a := 2) (by omega) (by omega)).mpr h)
  omega
theorem sn_ge {H h : Nat} (hH : H < 1000) (hh : h < 1000) (c : nI H ≤ nI h + 1) : ¬ h + 1 < H := by
  rw [jm_n1] at c
  have := (sn_i (by omega) (by omega)).mp c
  omega
theorem sn_lt {H h : Nat} (hH : H < 1000) (hh : h < 1000) (c : ¬ nI H ≤ nI h + 1) : h + 1 < H := by
  rw [jm_n1] at c
  have : ¬ H ≤ h + 1 := fun q => c ((sn_i (by omega) (by omega)).mpr q)
  omega
def s_wy (A : Nat → Nat) (a b : Nat) (I : jj_I) : Int32 := sx (sx 0 (fun j => I (A 2) (a + j + 1)) (b - a)) (fun j => 2 * I (A 2) (a - j)) (a - b)
set_option maxHeartbeats 4000000 in
set_option maxRecDepth 100000 in
theorem s_all {l : Launch} (hfl : l.stackTraces = false) {D : jj_D} {n : Nat} {K : jj_K} {I : jj_I} {P : jj_P} {G : jj_G} {A : Nat → Nat} {H M B N : Nat} {b : Nat} (hsy : sy A H M B N n K P) (hb : b < B) :
    jj_Met l D yX6_all (jj_ws yX6_all cX6_all 1 (some .int)) { frames := 0, cells := 0, slots := 0, locals := 0 } [.ref (A (20 + b))] n K I P G (jj_R (some (.int (s_al A b I))) (n) (K) (I) (P) (G)) jj_noX := by
  refine jj_of hfl (by decide +kernel) [some (.ref (A (20 + b)))] rfl rfl ?_
  intro X hXl hX hSt
  obtain ⟨hH8, hM5, hB10, hN30⟩ := id hsy.1
  refine jr_aload_n hX dX6_all_0 rfl ?_
  refine jr_getr hX kF_X6_13 rfl (sy_kB hsy (by first | assumption | omega)) (sy_qG hsy (by first | assumption | omega)) dX6_all_1 ?_
  refine jr_iconst (v := 0) hX dX6_all_4 (by decide) ?_
  refine jr_iald hX (by first | with_reducible assumption | with_reducible exact sy_k0 hsy | with_reducible exact sy_k1 hsy | with_reducible exact sy_k2 hsy | with_reducible exact sy_k3 hsy | with_reducible exact sy_k4 hsy | with_reducible exact sy_k5 hsy | with_reducible exact sy_k6 hsy | with_reducible exact sy_k7 hsy | with_reducible exact sy_k8 hsy | with_reducible exact sy_kH hsy (by first | assumption | omega) | with_reducible exact sy_kB hsy (by first | assumption | omega) | with_reducible exact sy_kG hsy (by first | assumption | omega) | with_reducible exact sy_kD hsy (by first | assumption | omega) | with_reducible exact sy_kM hsy (by first | assumption | omega) | with_reducible exact sy_kS hsy (by first | assumption | omega) (by first | assumption | omega)) (show _ = nI 0 from rfl) (by omega) dX6_all_5 ?_
  refine jr_aload_n hX dX6_all_6 rfl ?_
  refine jr_getr hX kF_X6_13 rfl (sy_kB hsy (by first | assumption | omega)) (sy_qG hsy (by first | assumption | omega)) dX6_all_7 ?_
  refine jr_iconst (v := 1) hX dX6_all_10 (by decide) ?_
  refine jr_iald hX (by first | with_reducible assumption | with_reducible exact sy_k0 hsy | with_reducible exact sy_k1 hsy | with_reducible exact sy_k2 hsy | with_reducible exact sy_k3 hsy | with_reducible exact sy_k4 hsy | with_reducible exact sy_k5 hsy | with_reducible exact sy_k6 hsy | with_reducible exact sy_k7 hsy | with_reducible exact sy_k8 hsy | with_reducible exact sy_kH hsy (by first | assumption | omega) | with_reducible exact sy_kB hsy (by first | assumption | omega) | with_reducible exact sy_kG hsy (by first | assumption | omega) | with_reducible exact sy_kD hsy (by first | assumption | omega) | with_reducible exact sy_kM hsy (by first | assumption | omega) | with_reducible exact sy_kS hsy (by first | assumption | omega) (by first | assumption | omega)) (show _ = nI 1 from rfl) (by omega) dX6_all_11 ?_
  refine jr_iadd hX dX6_all_12 ?_
  refine jr_aload_n hX dX6_all_13 rfl ?_
  refine jr_getr hX kF_X6_13 rfl (sy_kB hsy (by first | assumption | omega)) (sy_qG hsy (by first | assumption | omega)) dX6_all_14 ?_
  refine jr_iconst (v := 2) hX dX6_all_17 (by decide) ?_
  refine jr_iald hX (by first | with_reducible assumption | with_reducible exact sy_k0 hsy | with_reducible exact sy_k1 hsy | with_reducible exact sy_k2 hsy | with_reducible exact sy_k3 hsy | with_reducible exact sy_k4 hsy | with_reducible exact sy_k5 hsy | with_reducible exact sy_k6 hsy | with_reducible exact sy_k7 hsy | with_reducible exact sy_k8 hsy | with_reducible exact sy_kH hsy (by first | assumption | omega) | with_reducible exact sy_kB hsy (by first | assumption | omega) | with_reducible exact sy_kG hsy (by first | assumption | omega) | with_reducible exact sy_kD hsy (by first | assumption | omega) | with_reducible exact sy_kM hsy (by first | assumption | omega) | with_reducible exact sy_kS hsy (by first | assumption | omega) (by first | assumption | omega)) (show _ = nI 2 from rfl) (by omega) dX6_all_18 ?_
  refine jr_iadd hX dX6_all_19 ?_
  refine jr_aload_n hX dX6_all_20 rfl ?_
  refine jr_getr hX kF_X6_13 rfl (sy_kB hsy (by first | assumption | omega)) (sy_qG hsy (by first | assumption | omega)) dX6_all_21 ?_
  refine jr_iconst (v := 3) hX dX6_all_24 (by decide) ?_
  refine jr_iald hX (by first | with_reducible assumption | with_reducible exact sy_k0 hsy | with_reducible exact sy_k1 hsy | with_reducible exact sy_k2 hsy | with_reducible exact sy_k3 hsy | with_reducible exact sy_k4 hsy | with_reducible exact sy_k5 hsy | with_reducible exact sy_k6 hsy | with_reducible exact sy_k7 hsy | with_reducible exact sy_k8 hsy | with_reducible exact sy_kH hsy (by first | assumption | omega) | with_reducible exact sy_kB hsy (by first | assumption | omega) | with_reducible exact sy_kG hsy (by first | assumption | omega) | with_reducible exact sy_kD hsy (by first | assumption | omega) | with_reducible exact sy_kM hsy (by first | assumption | omega) | with_reducible exact sy_kS hsy (by first | assumption | omega) (by first | assumption | omega)) (show _ = nI 3 from rfl) (by omega) dX6_all_25 ?_
  refine jr_iadd hX dX6_all_26 ?_
  exact jr_iret hX dX6_all_27 rfl rfl ⟨rfl, rfl, rfl, rfl, rfl, rfl⟩
set_option maxHeartbeats 4000000 in
set_option maxRecDepth 100000 in
theorem s_around {l : Launch} (hfl : l.stackTraces = false) {D : jj_D} {n : Nat} {K : jj_K} {I : jj_I} {P : jj_P} {G : jj_G} {A : Nat → Nat} {H M B N : Nat} {h : Nat} (hsy : sy A H M B N n K P) (hh : h < H) :
    jj_Met l D yX7_around (jj_ws yX7_around cX7_around 2 (some .int)) { frames := 0, cells := 0, slots := 0, locals := 0 } [.ref (A 0), .int (nI h)] n K I P G (jj_R (some (.int (s_ar A H h I))) (n) (K) (I) (P) (G)) jj_noX := by
  refine jj_of hfl (by decide +kernel) [some (.ref (A 0)), some (.int (nI h))] rfl rfl ?_
  intro X hXl hX hSt
  obtain ⟨hH8, hM5, hB10, hN30⟩ := id hsy.1
  refine jr_aload_n hX dX7_around_0 rfl ?_
  refine jr_getr hX kF_X7_14 rfl (sy_k0 hsy) (sy_p0_1 hsy) dX7_around_1 ?_
  refine jr_alen (t := 15) hX (by decide) (sy_k5 hsy) dX7_around_4 ?_
  refine jr_iconst (v := 2) hX dX7_around_5 (by decide) ?_
  refine jr_icmp_ge (tgt := 13) hX dX7_around_6 (by decide) (fun c_6 => ?_) (fun c_6 => ?_)
  · refine jr_iload_n hX dX7_around_13 rfl ?_
    refine jr_iconst (v := 1) hX dX7_around_14 (by decide) ?_
    refine jr_iadd hX dX7_around_15 ?_
    refine jr_aload_n hX dX7_around_16 rfl ?_
    refine jr_getr hX kF_X7_14 rfl (sy_k0 hsy) (sy_p0_1 hsy) dX7_around_17 ?_
    refine jr_alen (t := 15) hX (by decide) (sy_k5 hsy) dX7_around_20 ?_
    refine jr_icmp_ge (tgt := 35) hX dX7_around_21 (by decide) (fun c_21 => ?_) (fun c_21 => ?_)
    · refine jr_aload_n hX dX7_around_35 rfl ?_
      refine jr_getr hX kF_X7_21 rfl (sy_k0 hsy) (sy_p0_3 hsy) dX7_around_36 ?_
      refine jr_iload_n hX dX7_around_39 rfl ?_
      refine jr_iald hX (by first | with_reducible assumption | with_reducible exact sy_k0 hsy | with_reducible exact sy_k1 hsy | with_reducible exact sy_k2 hsy | with_reducible exact sy_k3 hsy | with_reducible exact sy_k4 hsy | with_reducible exact sy_k5 hsy | with_reducible exact sy_k6 hsy | with_reducible exact sy_k7 hsy | with_reducible exact sy_k8 hsy | with_reducible exact sy_kH hsy (by first | assumption | omega) | with_reducible exact sy_kB hsy (by first | assumption | omega) | with_reducible exact sy_kG hsy (by first | assumption | omega) | with_reducible exact sy_kD hsy (by first | assumption | omega) | with_reducible exact sy_kM hsy (by first | assumption | omega) | with_reducible exact sy_kS hsy (by first | assumption | omega) (by first | assumption | omega)) rfl (by omega) dX7_around_40 ?_
      exact jr_iret hX dX7_around_41 rfl rfl ⟨by rw [show s_ar A H h I = I (A 3) h by unfold s_ar; rw [if_neg (sn_le (by omega) c_6), if_neg (sn_ge (by omega) (by omega) c_21)]], rfl, rfl, rfl, rfl, rfl⟩
    · refine jr_aload_n hX dX7_around_24 rfl ?_
      refine jr_getr hX kF_X7_21 rfl (sy_k0 hsy) (sy_p0_3 hsy) dX7_around_25 ?_
      refine jr_iload_n hX dX7_around_28 rfl ?_
      refine jr_iconst (v := 1) hX dX7_around_29 (by decide) ?_
      refine jr_iadd hX dX7_around_30 ?_
      have hlt := sn_lt (H := H) (h := h) (by omega) (by omega) c_21
      refine jr_iald hX (by first | with_reducible assumption | with_reducible exact sy_k0 hsy | with_reducible exact sy_k1 hsy | with_reducible exact sy_k2 hsy | with_reducible exact sy_k3 hsy | with_reducible exact sy_k4 hsy | with_reducible exact sy_k5 hsy | with_reducible exact sy_k6 hsy | with_reducible exact sy_k7 hsy | with_reducible exact sy_k8 hsy | with_reducible exact sy_kH hsy (by first | assumption | omega) | with_reducible exact sy_kB hsy (by first | assumption | omega) | with_reducible exact sy_kG hsy (by first | assumption | omega) | with_reducible exact sy_kD hsy (by first | assumption | omega) | with_reducible exact sy_kM hsy (by first | assumption | omega) | with_reducible exact sy_kS hsy (by first | assumption | omega) (by first | assumption | omega)) (jm_n1 h) (by omega) dX7_around_31 ?_
      refine jr_goto (tgt := 41) hX dX7_around_32 (by decide) ?_
      exact jr_iret hX dX7_around_41 rfl rfl ⟨by rw [show s_ar A H h I = I (A 3) (h + 1) by unfold s_ar; rw [if_neg (sn_le (by omega) c_6), if_pos (sn_lt (by omega) (by omega) c_21)]], rfl, rfl, rfl, rfl, rfl⟩
  · refine jr_iconst (v := 0) hX dX7_around_9 (by decide) ?_
    refine jr_goto (tgt := 41) hX dX7_around_10 (by decide) ?_
    exact jr_iret hX dX7_around_41 rfl rfl ⟨by rw [show s_ar A H h I = 0 from if_pos (sn_l2 (by omega) c_6)], rfl, rfl, rfl, rfl, rfl⟩
set_option maxHeartbeats 4000000 in
set_option maxRecDepth 100000 in
theorem s_inn {l : Launch} (hfl : l.stackTraces = false) {D : jj_D} {n : Nat} {K : jj_K} {I : jj_I} {P : jj_P} {G : jj_G} {A : Nat → Nat} {H M B N : Nat} {x y : Int32} (hsy : sy A H M B N n K P) :
    jj_Met l D yX7_in (jj_ws yX7_in cX7_in 8 (some .int)) { frames := 0, cells := 0, slots := 0, locals := 0 } [.ref (A 0), .int x, .int y] n K I P G (jj_R (some (.int (sm (s_in A x y I) B))) (n) (K) (I) (P) (G)) jj_noX := by
  refine jj_of hfl (by decide +kernel) [some (.ref (A 0)), some (.int x), some (.int y), none, none, none, none, none] rfl rfl ?_
  intro X hXl hX hSt
  obtain ⟨hH8, hM5, hB10, hN30⟩ := id hsy.1
  refine jr_iconst (v := 0) hX dX7_in_0 (by decide) ?_
  refine jr_istore_n hX dX7_in_1 rfl ?_
  refine jr_aload_n hX dX7_in_2 rfl ?_
  refine jr_getr hX kF_X7_34 rfl (sy_k0 hsy) (sy_p0_6 hsy) dX7_in_3 ?_
  refine jr_astore hX dX7_in_6 rfl ?_
  refine jr_aload hX dX7_in_8 rfl ?_
  refine jr_alen (t := 17) hX (by decide) (sy_k6 hsy) dX7_in_10 ?_
  refine jr_istore hX dX7_in_11 rfl ?_
  refine jr_iconst (v := 0) hX dX7_in_13 (by decide) ?_
  refine jr_istore hX dX7_in_14 rfl ?_
  have hloop : ∀ k, k ≤ B → jj_J X D 8 0 0 (jj_MQ X D { frames := 0, cells := 0, slots := 0, locals := 0 } (jj_R (some (.int (sm (s_in A x y I) B))) (n) (K) (I) (P) (G)) jj_noX) (n) (K) (I) (P) (G) 16 [some (.ref (A 0)), some (.int x), some (.int y), some (.int (sm (s_in A x y I) k)), some (.ref (A 6)), some (.int (nI B)), some (.int (nI k)), none] [] := by
    refine jj_for (B) _ ?_ (fun k hk ih => ?_)
    · refine jr_iload hX dX7_in_16 rfl ?_
      refine jr_iload hX dX7_in_18 rfl ?_
      refine jr_icmp_ge (tgt := 62) hX dX7_in_20 (by decide) (fun c_20 => ?_) (fun c_20 => absurd (nI_le (Nat.le_refl _) (by omega)) c_20)
      refine jr_iload_n hX dX7_in_62 rfl ?_
      exact jr_iret hX dX7_in_63 rfl rfl ⟨rfl, rfl, rfl, rfl, rfl, rfl⟩
    · refine jr_iload hX dX7_in_16 rfl ?_
      refine jr_iload hX dX7_in_18 rfl ?_
      refine jr_icmp_ge (tgt := 62) hX dX7_in_20 (by decide) (fun c_20 => absurd c_20 (nI_ge (by assumption) (by omega))) (fun c_20 => ?_)
      refine jr_aload hX dX7_in_23 rfl ?_
      refine jr_iload hX dX7_in_25 rfl ?_
      refine jr_aald (t := 17) hX (by decide) (sy_k6 hsy) rfl (by omega) (sy_qB hsy (by omega)) dX7_in_27 ?_
      refine jr_astore hX dX7_in_28 rfl ?_
      refine jr_iload_n hX dX7_in_30 rfl ?_
      refine jr_aload hX dX7_in_31 rfl ?_
      refine jr_geti hX kF_X7_67 rfl (sy_kB hsy (by first | assumption | omega)) dX7_in_33 ?_
      refine jr_iload_n hX dX7_in_36 rfl ?_
      refine jr_icmp_ne (tgt := 53) hX dX7_in_37 (by decide) (fun c_37 => ?_) (fun c_37 => ?_)
      · refine jr_iconst (v := 0) hX dX7_in_53 (by decide) ?_
        refine jr_iadd hX dX7_in_54 ?_
        refine jr_istore_n hX dX7_in_55 rfl ?_
        refine jr_iinc hX dX7_in_56 rfl (by first | with_reducible exact jj_inc _ | with_reducible exact jj_inc1 _) rfl ?_
        refine jr_goto (tgt := 16) hX dX7_in_59 (by decide) ?_
        rw [sm_1 (show s_in A x y I k = 0 from if_neg (fun q => c_37 q.1))] at ih
        exact jr_forget (fun _ _ h => h) (fun i v h => by rcases i with _ | _ | _ | _ | _ | _ | _ | _ | i <;> first | exact h | exact absurd h (by simp)) (ih)
      · refine jr_aload hX dX7_in_40 rfl ?_
        refine jr_geti hX kF_X7_61 rfl (sy_kB hsy (by first | assumption | omega)) dX7_in_42 ?_
        refine jr_iload_n hX dX7_in_45 rfl ?_
        refine jr_icmp_ne (tgt := 53) hX dX7_in_46 (by decide) (fun c_46 => ?_) (fun c_46 => ?_)
        · refine jr_iconst (v := 0) hX dX7_in_53 (by decide) ?_
          refine jr_iadd hX dX7_in_54 ?_
          refine jr_istore_n hX dX7_in_55 rfl ?_
          refine jr_iinc hX dX7_in_56 rfl (by first | with_reducible exact jj_inc _ | with_reducible exact jj_inc1 _) rfl ?_
          refine jr_goto (tgt := 16) hX dX7_in_59 (by decide) ?_
          rw [sm_1 (show s_in A x y I k = 0 from if_neg (fun q => c_46 q.2))] at ih
          exact jr_forget (fun _ _ h => h) (fun i v h => by rcases i with _ | _ | _ | _ | _ | _ | _ | _ | i <;> first | exact h | exact absurd h (by simp)) (ih)
        · refine jr_iconst (v := 1) hX dX7_in_49 (by decide) ?_
          refine jr_goto (tgt := 54) hX dX7_in_50 (by decide) ?_
          refine jr_iadd hX dX7_in_54 ?_
          refine jr_istore_n hX dX7_in_55 rfl ?_
          refine jr_iinc hX dX7_in_56 rfl (by first | with_reducible exact jj_inc _ | with_reducible exact jj_inc1 _) rfl ?_
          refine jr_goto (tgt := 16) hX dX7_in_59 (by decide) ?_
          rw [sm_1 (show s_in A x y I k = 1 from if_pos ⟨c_37, c_46⟩)] at ih
          exact jr_forget (fun _ _ h => h) (fun i v h => by rcases i with _ | _ | _ | _ | _ | _ | _ | _ | i <;> first | exact h | exact absurd h (by simp)) (ih)
  exact hloop 0 (Nat.zero_le _)
set_option maxHeartbeats 4000000 in
set_option maxRecDepth 100000 in
theorem s_sunk {l : Launch} (hfl : l.stackTraces = false) {D : jj_D} {n : Nat} {K : jj_K} {I : jj_I} {P : jj_P} {G : jj_G} {A : Nat → Nat} {H M B N : Nat} (hsy : sy A H M B N n K P) :
    jj_Met l D yX7_sunk (jj_ws yX7_sunk cX7_sunk 6 (some .int)) { frames := 0, cells := 0, slots := 0, locals := 0 } [.ref (A 0)] n K I P G (jj_R (some (.int (sm (s_su A I) B))) (n) (K) (I) (P) (G)) jj_noX := by
  refine jj_of hfl (by decide +kernel) [some (.ref (A 0)), none, none, none, none, none] rfl rfl ?_
  intro X hXl hX hSt
  obtain ⟨hH8, hM5, hB10, hN30⟩ := id hsy.1
  refine jr_iconst (v := 0) hX dX7_sunk_0 (by decide) ?_
  refine jr_istore_n hX dX7_sunk_1 rfl ?_
  refine jr_aload_n hX dX7_sunk_2 rfl ?_
  refine jr_getr hX kF_X7_34 rfl (sy_k0 hsy) (sy_p0_6 hsy) dX7_sunk_3 ?_
  refine jr_astore_n hX dX7_sunk_6 rfl ?_
  refine jr_aload_n hX dX7_sunk_7 rfl ?_
  refine jr_alen (t := 17) hX (by decide) (sy_k6 hsy) dX7_sunk_8 ?_
  refine jr_istore_n hX dX7_sunk_9 rfl ?_
  refine jr_iconst (v := 0) hX dX7_sunk_10 (by decide) ?_
  refine jr_istore hX dX7_sunk_11 rfl ?_
  have hloop : ∀ k, k ≤ B → jj_J X D 6 0 0 (jj_MQ X D { frames := 0, cells := 0, slots := 0, locals := 0 } (jj_R (some (.int (sm (s_su A I) B))) (n) (K) (I) (P) (G)) jj_noX) (n) (K) (I) (P) (G) 13 [some (.ref (A 0)), some (.int (sm (s_su A I) k)), some (.ref (A 6)), some (.int (nI B)), some (.int (nI k)), none] [] := by
    refine jj_for (B) _ ?_ (fun k hk ih => ?_)
    · refine jr_iload hX dX7_sunk_13 rfl ?_
      refine jr_iload_n hX dX7_sunk_15 rfl ?_
      refine jr_icmp_ge (tgt := 48) hX dX7_sunk_16 (by decide) (fun c_16 => ?_) (fun c_16 => absurd (nI_le (Nat.le_refl _) (by omega)) c_16)
      refine jr_iload_n hX dX7_sunk_48 rfl ?_
      exact jr_iret hX dX7_sunk_49 rfl rfl ⟨rfl, rfl, rfl, rfl, rfl, rfl⟩
    · refine jr_iload hX dX7_sunk_13 rfl ?_
      refine jr_iload_n hX dX7_sunk_15 rfl ?_
      refine jr_icmp_ge (tgt := 48) hX dX7_sunk_16 (by decide) (fun c_16 => absurd c_16 (nI_ge (by assumption) (by omega))) (fun c_16 => ?_)
      refine jr_aload_n hX dX7_sunk_19 rfl ?_
      refine jr_iload hX dX7_sunk_20 rfl ?_
      refine jr_aald (t := 17) hX (by decide) (sy_k6 hsy) rfl (by omega) (sy_qB hsy (by omega)) dX7_sunk_22 ?_
      refine jr_astore hX dX7_sunk_23 rfl ?_
      refine jr_iload_n hX dX7_sunk_25 rfl ?_
      refine jr_aload hX dX7_sunk_26 rfl ?_
      refine jr_geti hX kF_X7_67 rfl (sy_kB hsy (by first | assumption | omega)) dX7_sunk_28 ?_
      refine jr_iconst (v := 3) hX dX7_sunk_31 (by decide) ?_
      refine jr_icmp_ne (tgt := 39) hX dX7_sunk_32 (by decide) (fun c_32 => ?_) (fun c_32 => ?_)
      · refine jr_iconst (v := 0) hX dX7_sunk_39 (by decide) ?_
        refine jr_iadd hX dX7_sunk_40 ?_
        refine jr_istore_n hX dX7_sunk_41 rfl ?_
        refine jr_iinc hX dX7_sunk_42 rfl (by first | with_reducible exact jj_inc _ | with_reducible exact jj_inc1 _) rfl ?_
        refine jr_goto (tgt := 13) hX dX7_sunk_45 (by decide) ?_
        rw [sm_1 (show s_su A I k = 0 from if_neg c_32)] at ih
        exact jr_forget (fun _ _ h => h) (fun i v h => by rcases i with _ | _ | _ | _ | _ | _ | i <;> first | exact h | exact absurd h (by simp)) (ih)
      · refine jr_iconst (v := 1) hX dX7_sunk_35 (by decide) ?_
        refine jr_goto (tgt := 40) hX dX7_sunk_36 (by decide) ?_
        refine jr_iadd hX dX7_sunk_40 ?_
        refine jr_istore_n hX dX7_sunk_41 rfl ?_
        refine jr_iinc hX dX7_sunk_42 rfl (by first | with_reducible exact jj_inc _ | with_reducible exact jj_inc1 _) rfl ?_
        refine jr_goto (tgt := 13) hX dX7_sunk_45 (by decide) ?_
        rw [sm_1 (show s_su A I k = 1 from if_pos c_32)] at ih
        exact jr_forget (fun _ _ h => h) (fun i v h => by rcases i with _ | _ | _ | _ | _ | _ | i <;> first | exact h | exact absurd h (by simp)) (ih)
  exact hloop 0 (Nat.zero_le _)
