/-! all told in one number -/
def f_mH (H B : Nat) (I : jj_I) (d : Int64) : Nat → Int64 := it (fun h x => lx x (q_hf h H B I) 8) d
def f_mL (B : Nat) (I : jj_I) (d : Int64) : Nat → Int64 := it (fun h x => lx x (q_lf h B I) 4) d
def f_mM (H B N : Nat) (I : jj_I) (d : Int64) : Nat → Int64 := it (fun m x => lx (lx x (q_mf m B N I) 6) (I (aMt 0 m)) (H * 4)) d
def f_mB (I : jj_I) (d : Int64) : Nat → Int64 := it (fun b x => lx x (q_bf b I) 12) d
def f_mD (I : jj_I) (d : Int64) : Nat → Int64 := it (fun k x => lx x (I (aD 0 k)) 7) d
def f_dg (H M B N : Nat) (I : jj_I) : Int64 := f_mD I (f_mB I (f_mM H B N I (f_mL B I (f_mH H B I (lx (lx 661 (q_cf H M B N I) 10) (I (aWm 0)) 40) H) (H - 1)) M) B) N
set_option maxHeartbeats 4000000 in
set_option maxRecDepth 100000 in
theorem c_mix {l : Launch} (hfl : l.stackTraces = false) {D : jj_D} {n : Nat} {K : jj_K} {I : jj_I} {P : jj_P} {G : jj_G} {d : Int64} {x : Int32} :
    jj_Met l D yX5_mix (jj_ws yX5_mix cX5_mix 3 (some .long)) { frames := 0, cells := 0, slots := 0, locals := 0 } [.long d, .int x] n K I P G (jj_R (some (.long (d * 31 + x.toInt64))) (n) (K) (I) (P) (G)) jj_noX := by
  refine jj_of hfl (by decide +kernel) [some (.long d), none, some (.int x)] rfl rfl ?_
  intro X hXl hX hSt
  refine jr_lload_n hX dX5_mix_0 rfl ?_
  refine jr_ldc2 hX kJ_X5_346 dX5_mix_1 ?_
  refine jr_lmul hX dX5_mix_4 ?_
  refine jr_iload_n hX dX5_mix_5 rfl ?_
  refine jr_i2l hX dX5_mix_6 ?_
  refine jr_ladd hX dX5_mix_7 ?_
  exact jr_lret hX dX5_mix_8 rfl rfl ⟨rfl, rfl, rfl, rfl, rfl, rfl⟩
set_option maxHeartbeats 4000000 in
set_option maxRecDepth 100000 in
theorem c_mixH {l : Launch} (hfl : l.stackTraces = false) {D : jj_D} {n : Nat} {K : jj_K} {I : jj_I} {P : jj_P} {G : jj_G} (hly : ly K P) {H M B N : Nat} {d : Int64} (hs : sf 0 H M B N I) :
    jj_Met l D yX5_mixHarbours (jj_ws yX5_mixHarbours cX5_mixHarbours 7 (some .long)) { frames := 4, cells := 0, slots := 0, locals := 85 } [.ref 1, .long d] n K I P G (jj_R (some (.long (f_mH H B I d (H)))) (n) (K) (I) (P) (G)) jj_noX := by
  refine jj_of hfl (by decide +kernel) [some (.ref 1), some (.long d), none, none, none, none, none] rfl rfl ?_
  intro X hXl hX hSt
  have hH := hs.1.1
  have hH2 := hs.1.2
  have hM := hs.2.1.1
  have hM2 := hs.2.1.2
  have hB := hs.2.2.1.1
  have hB2 := hs.2.2.1.2
  have hN := hs.2.2.2.1.1
  have hN2 := hs.2.2.2.1.2
  refine jr_lload_n hX dX5_mixHarbours_0 rfl ?_
  refine jr_lstore_n hX dX5_mixHarbours_1 rfl ?_
  refine jr_iconst (v := 0) hX dX5_mixHarbours_2 (by decide) ?_
  refine jr_istore hX dX5_mixHarbours_3 rfl ?_
  have hloop : ∀ k, k ≤ H → jj_J X D 7 0 0 (jj_MQ X D { frames := 4, cells := 0, slots := 0, locals := 85 } (jj_R (some (.long (f_mH H B I d (H)))) (n) (K) (I) (P) (G)) jj_noX) (n) (K) (I) (P) (G) 5 [some (.ref 1), some (.long d), none, some (.long (f_mH H B I d (k))), none, some (.int (nI k)), none] [] := by
    refine jj_for (H) _ ?_ (fun k hk ih => ?_)
    · refine jr_iload hX dX5_mixHarbours_5 rfl ?_
      refine jr_aload_n hX dX5_mixHarbours_7 rfl ?_
      refine jr_getr hX kF_X5_20 rfl (ly_kI hly) (ly_p5_1 hly) dX5_mixHarbours_8 ?_
      refine jr_geti hX kF_X5_43 rfl (ly_kR hly (by first | assumption | omega)) dX5_mixHarbours_11 ?_
      refine jr_icmp_ge (tgt := 52) hX dX5_mixHarbours_14 (by decide) (fun c_14 => ?_) (fun c_14 => absurd (by first | (rw [hH]; exact nI_le (Nat.le_refl _) (by omega)) | exact nI_le (Nat.le_refl _) (by omega)) c_14)
      refine jr_lload_n hX dX5_mixHarbours_52 rfl ?_
      exact jr_lret hX dX5_mixHarbours_53 rfl rfl ⟨rfl, rfl, rfl, rfl, rfl, rfl⟩
    · refine jr_iload hX dX5_mixHarbours_5 rfl ?_
      refine jr_aload_n hX dX5_mixHarbours_7 rfl ?_
      refine jr_getr hX kF_X5_20 rfl (ly_kI hly) (ly_p5_1 hly) dX5_mixHarbours_8 ?_
      refine jr_geti hX kF_X5_43 rfl (ly_kR hly (by first | assumption | omega)) dX5_mixHarbours_11 ?_
      refine jr_icmp_ge (tgt := 52) hX dX5_mixHarbours_14 (by decide) (fun c_14 => absurd c_14 (by first | (rw [hH]; exact nI_ge (by assumption) (by omega)) | exact nI_ge (by assumption) (by omega))) (fun c_14 => ?_)
      refine jr_iconst (v := 0) hX dX5_mixHarbours_17 (by decide) ?_
      refine jr_istore hX dX5_mixHarbours_18 rfl ?_
      have hin : ∀ j, j ≤ 8 → jj_J X D 7 0 0 (jj_MQ X D { frames := 4, cells := 0, slots := 0, locals := 85 } (jj_R (some (.long (f_mH H B I d (H)))) (n) (K) (I) (P) (G)) jj_noX) (n) (K) (I) (P) (G) 20 [some (.ref 1), some (.long d), none, some (.long (lx (f_mH H B I d (k)) (q_hf k H B I) j)), none, some (.int (nI k)), some (.int (nI j))] [] := by
        refine jj_for (8) _ ?_ (fun j hj ih => ?_)
        · refine jr_iload hX dX5_mixHarbours_20 rfl ?_
          refine jr_bipush (v := 8) hX dX5_mixHarbours_22 (by decide) ?_
          refine jr_icmp_ge (tgt := 46) hX dX5_mixHarbours_24 (by decide) (fun c_24 => ?_) (fun c_24 => absurd (by decide) c_24)
          refine jr_iinc hX dX5_mixHarbours_46 rfl (by first | with_reducible exact jj_inc _ | with_reducible exact jj_inc1 _) rfl ?_
          refine jr_goto (tgt := 5) hX dX5_mixHarbours_49 (by decide) ?_
          exact jr_forget (fun _ _ h => h) (fun i v h => by rcases i with _ | _ | _ | _ | _ | _ | _ | i <;> first | exact h | exact absurd h (by simp)) (ih)
        · refine jr_iload hX dX5_mixHarbours_20 rfl ?_
          refine jr_bipush (v := 8) hX dX5_mixHarbours_22 (by decide) ?_
          refine jr_icmp_ge (tgt := 46) hX dX5_mixHarbours_24 (by decide) (fun c_24 => absurd c_24 (show ¬ nI 8 ≤ nI j from nI_ge hj (by omega))) (fun c_24 => ?_)
          refine jr_lload_n hX dX5_mixHarbours_27 rfl ?_
          refine jr_aload_n hX dX5_mixHarbours_28 rfl ?_
          refine jr_iload hX dX5_mixHarbours_29 rfl ?_
          refine jr_iload hX dX5_mixHarbours_31 rfl ?_
          refine jr_ret (jr_runV hX hSt kM_X5_64 (c_harbourFact (jj_fl hX) hly hs (by assumption) hj) rfl rfl (ly_kI hly) ⟨_, _, rfl, by decide⟩ dX5_mixHarbours_33 rfl ⟨jj_b1 rfl, jj_b1 rfl⟩ rfl) ?_
          refine jr_ret (jr_runS hX hSt kM_X5_260 (c_mix (jj_fl hX)) rfl rfl dX5_mixHarbours_36 rfl ⟨jj_b1 rfl, jj_b1 rfl⟩ rfl) ?_
          refine jr_lstore_n hX dX5_mixHarbours_39 rfl ?_
          refine jr_iinc hX dX5_mixHarbours_40 rfl (by first | with_reducible exact jj_inc _ | with_reducible exact jj_inc1 _) rfl ?_
          refine jr_goto (tgt := 20) hX dX5_mixHarbours_43 (by decide) ?_
          exact ih
      exact hin 0 (Nat.zero_le _)
  exact hloop 0 (Nat.zero_le _)
set_option maxHeartbeats 4000000 in
set_option maxRecDepth 100000 in
theorem c_mixL {l : Launch} (hfl : l.stackTraces = false) {D : jj_D} {n : Nat} {K : jj_K} {I : jj_I} {P : jj_P} {G : jj_G} (hly : ly K P) {H M B N : Nat} {d : Int64} (hs : sf 0 H M B N I) :
    jj_Met l D yX5_mixLegs (jj_ws yX5_mixLegs cX5_mixLegs 7 (some .long)) { frames := 2, cells := 0, slots := 0, locals := 45 } [.ref 1, .long d] n K I P G (jj_R (some (.long (f_mL B I d (H - 1)))) (n) (K) (I) (P) (G)) jj_noX := by
  refine jj_of hfl (by decide +kernel) [some (.ref 1), some (.long d), none, none, none, none, none] rfl rfl ?_
  intro X hXl hX hSt
  have hH := hs.1.1
  have hH2 := hs.1.2
  have hM := hs.2.1.1
  have hM2 := hs.2.1.2
  have hB := hs.2.2.1.1
  have hB2 := hs.2.2.1.2
  have hN := hs.2.2.2.1.1
  have hN2 := hs.2.2.2.1.2
  refine jr_lload_n hX dX5_mixLegs_0 rfl ?_
  refine jr_lstore_n hX dX5_mixLegs_1 rfl ?_
  refine jr_iconst (v := 0) hX dX5_mixLegs_2 (by decide) ?_
  refine jr_istore hX dX5_mixLegs_3 rfl ?_
  have hloop : ∀ k, k ≤ H - 1 → jj_J X D 7 0 0 (jj_MQ X D { frames := 2, cells := 0, slots := 0, locals := 45 } (jj_R (some (.long (f_mL B I d (H - 1)))) (n) (K) (I) (P) (G)) jj_noX) (n) (K) (I) (P) (G) 5 [some (.ref 1), some (.long d), none, some (.long (f_mL B I d (k))), none, some (.int (nI k)), none] [] := by
    refine jj_for (H - 1) _ ?_ (fun k hk ih => ?_)
    · refine jr_iload hX dX5_mixLegs_5 rfl ?_
      refine jr_aload_n hX dX5_mixLegs_7 rfl ?_
      refine jr_getr hX kF_X5_20 rfl (ly_kI hly) (ly_p5_1 hly) dX5_mixLegs_8 ?_
      refine jr_ret (jr_runV hX hSt kM_X5_298 (c_X3_legs (jj_fl hX) hly (by omega) hH hH2) rfl rfl (ly_kR hly (by first | assumption | omega)) ⟨_, _, rfl, by decide⟩ dX5_mixLegs_11 rfl ⟨jj_b1 rfl, jj_b1 rfl⟩ rfl) ?_
      refine jr_icmp_ge (tgt := 51) hX dX5_mixLegs_14 (by decide) (fun c_14 => ?_) (fun c_14 => absurd (by first | (rw [hH]; exact nI_le (Nat.le_refl _) (by omega)) | exact nI_le (Nat.le_refl _) (by omega)) c_14)
      refine jr_lload_n hX dX5_mixLegs_51 rfl ?_
      exact jr_lret hX dX5_mixLegs_52 rfl rfl ⟨rfl, rfl, rfl, rfl, rfl, rfl⟩
    · refine jr_iload hX dX5_mixLegs_5 rfl ?_
      refine jr_aload_n hX dX5_mixLegs_7 rfl ?_
      refine jr_getr hX kF_X5_20 rfl (ly_kI hly) (ly_p5_1 hly) dX5_mixLegs_8 ?_
      refine jr_ret (jr_runV hX hSt kM_X5_298 (c_X3_legs (jj_fl hX) hly (by omega) hH hH2) rfl rfl (ly_kR hly (by first | assumption | omega)) ⟨_, _, rfl, by decide⟩ dX5_mixLegs_11 rfl ⟨jj_b1 rfl, jj_b1 rfl⟩ rfl) ?_
      refine jr_icmp_ge (tgt := 51) hX dX5_mixLegs_14 (by decide) (fun c_14 => absurd c_14 (by first | (rw [hH]; exact nI_ge (by assumption) (by omega)) | exact nI_ge (by assumption) (by omega))) (fun c_14 => ?_)
      refine jr_iconst (v := 0) hX dX5_mixLegs_17 (by decide) ?_
      refine jr_istore hX dX5_mixLegs_18 rfl ?_
      have hin : ∀ j, j ≤ 4 → jj_J X D 7 0 0 (jj_MQ X D { frames := 2, cells := 0, slots := 0, locals := 45 } (jj_R (some (.long (f_mL B I d (H - 1)))) (n) (K) (I) (P) (G)) jj_noX) (n) (K) (I) (P) (G) 20 [some (.ref 1), some (.long d), none, some (.long (lx (f_mL B I d (k)) (q_lf k B I) j)), none, some (.int (nI k)), some (.int (nI j))] [] := by
        refine jj_for (4) _ ?_ (fun j hj ih => ?_)
        · refine jr_iload hX dX5_mixLegs_20 rfl ?_
          refine jr_iconst (v := 4) hX dX5_mixLegs_22 (by decide) ?_
          refine jr_icmp_ge (tgt := 45) hX dX5_mixLegs_23 (by decide) (fun c_23 => ?_) (fun c_23 => absurd (by decide) c_23)
          refine jr_iinc hX dX5_mixLegs_45 rfl (by first | with_reducible exact jj_inc _ | with_reducible exact jj_inc1 _) rfl ?_
          refine jr_goto (tgt := 5) hX dX5_mixLegs_48 (by decide) ?_
          exact jr_forget (fun _ _ h => h) (fun i v h => by rcases i with _ | _ | _ | _ | _ | _ | _ | i <;> first | exact h | exact absurd h (by simp)) (ih)
        · refine jr_iload hX dX5_mixLegs_20 rfl ?_
          refine jr_iconst (v := 4) hX dX5_mixLegs_22 (by decide) ?_
          refine jr_icmp_ge (tgt := 45) hX dX5_mixLegs_23 (by decide) (fun c_23 => absurd c_23 (show ¬ nI 4 ≤ nI j from nI_ge hj (by omega))) (fun c_23 => ?_)
          refine jr_lload_n hX dX5_mixLegs_26 rfl ?_
          refine jr_aload_n hX dX5_mixLegs_27 rfl ?_
          refine jr_iload hX dX5_mixLegs_28 rfl ?_
          refine jr_iload hX dX5_mixLegs_30 rfl ?_
          refine jr_ret (jr_runV hX hSt kM_X5_70 (c_legFact (jj_fl hX) hly hs (by omega) hj) rfl rfl (ly_kI hly) ⟨_, _, rfl, by decide⟩ dX5_mixLegs_32 rfl ⟨jj_b1 rfl, jj_b1 rfl⟩ rfl) ?_
          refine jr_ret (jr_runS hX hSt kM_X5_260 (c_mix (jj_fl hX)) rfl rfl dX5_mixLegs_35 rfl ⟨jj_b1 rfl, jj_b1 rfl⟩ rfl) ?_
          refine jr_lstore_n hX dX5_mixLegs_38 rfl ?_
          refine jr_iinc hX dX5_mixLegs_39 rfl (by first | with_reducible exact jj_inc _ | with_reducible exact jj_inc1 _) rfl ?_
          refine jr_goto (tgt := 20) hX dX5_mixLegs_42 (by decide) ?_
          exact ih
      exact hin 0 (Nat.zero_le _)
  exact hloop 0 (Nat.zero_le _)
set_option maxHeartbeats 4000000 in
set_option maxRecDepth 100000 in
theorem c_mixB {l : Launch} (hfl : l.stackTraces = false) {D : jj_D} {n : Nat} {K : jj_K} {I : jj_I} {P : jj_P} {G : jj_G} (hly : ly K P) {H M B N : Nat} {d : Int64} (hs : sf 0 H M B N I) :
    jj_Met l D yX5_mixBoats (jj_ws yX5_mixBoats cX5_mixBoats 7 (some .long)) { frames := 3, cells := 0, slots := 0, locals := 63 } [.ref 1, .long d] n K I P G (jj_R (some (.long (f_mB I d (B)))) (n) (K) (I) (P) (G)) jj_noX := by
  refine jj_of hfl (by decide +kernel) [some (.ref 1), some (.long d), none, none, none, none, none] rfl rfl ?_
  intro X hXl hX hSt
  have hH := hs.1.1
  have hH2 := hs.1.2
  have hM := hs.2.1.1
  have hM2 := hs.2.1.2
  have hB := hs.2.2.1.1
  have hB2 := hs.2.2.1.2
  have hN := hs.2.2.2.1.1
  have hN2 := hs.2.2.2.1.2
  refine jr_lload_n hX dX5_mixBoats_0 rfl ?_
  refine jr_lstore_n hX dX5_mixBoats_1 rfl ?_
  refine jr_iconst (v := 0) hX dX5_mixBoats_2 (by decide) ?_
  refine jr_istore hX dX5_mixBoats_3 rfl ?_
  have hloop : ∀ k, k ≤ B → jj_J X D 7 0 0 (jj_MQ X D { frames := 3, cells := 0, slots := 0, locals := 63 } (jj_R (some (.long (f_mB I d (B)))) (n) (K) (I) (P) (G)) jj_noX) (n) (K) (I) (P) (G) 5 [some (.ref 1), some (.long d), none, some (.long (f_mB I d (k))), none, some (.int (nI k)), none] [] := by
    refine jj_for (B) _ ?_ (fun k hk ih => ?_)
    · refine jr_iload hX dX5_mixBoats_5 rfl ?_
      refine jr_aload_n hX dX5_mixBoats_7 rfl ?_
      refine jr_getr hX kF_X5_12 rfl (ly_kI hly) (ly_p5_0 hly) dX5_mixBoats_8 ?_
      refine jr_geti hX kF_X5_100 rfl (ly_kW hly (by first | assumption | omega)) dX5_mixBoats_11 ?_
      refine jr_icmp_ge (tgt := 59) hX dX5_mixBoats_14 (by decide) (fun c_14 => ?_) (fun c_14 => absurd (by first | (rw [hB]; exact nI_le (Nat.le_refl _) (by omega)) | exact nI_le (Nat.le_refl _) (by omega)) c_14)
      refine jr_lload_n hX dX5_mixBoats_59 rfl ?_
      exact jr_lret hX dX5_mixBoats_60 rfl rfl ⟨rfl, rfl, rfl, rfl, rfl, rfl⟩
    · refine jr_iload hX dX5_mixBoats_5 rfl ?_
      refine jr_aload_n hX dX5_mixBoats_7 rfl ?_
      refine jr_getr hX kF_X5_12 rfl (ly_kI hly) (ly_p5_0 hly) dX5_mixBoats_8 ?_
      refine jr_geti hX kF_X5_100 rfl (ly_kW hly (by first | assumption | omega)) dX5_mixBoats_11 ?_
      refine jr_icmp_ge (tgt := 59) hX dX5_mixBoats_14 (by decide) (fun c_14 => absurd c_14 (by first | (rw [hB]; exact nI_ge (by assumption) (by omega)) | exact nI_ge (by assumption) (by omega))) (fun c_14 => ?_)
      refine jr_iconst (v := 0) hX dX5_mixBoats_17 (by decide) ?_
      refine jr_istore hX dX5_mixBoats_18 rfl ?_
      have hin : ∀ j, j ≤ 12 → jj_J X D 7 0 0 (jj_MQ X D { frames := 3, cells := 0, slots := 0, locals := 63 } (jj_R (some (.long (f_mB I d (B)))) (n) (K) (I) (P) (G)) jj_noX) (n) (K) (I) (P) (G) 20 [some (.ref 1), some (.long d), none, some (.long (lx (f_mB I d (k)) (q_bf k I) j)), none, some (.int (nI k)), some (.int (nI j))] [] := by
        refine jj_for (12) _ ?_ (fun j hj ih => ?_)
        · refine jr_iload hX dX5_mixBoats_20 rfl ?_
          refine jr_bipush (v := 12) hX dX5_mixBoats_22 (by decide) ?_
          refine jr_icmp_ge (tgt := 53) hX dX5_mixBoats_24 (by decide) (fun c_24 => ?_) (fun c_24 => absurd (by decide) c_24)
          refine jr_iinc hX dX5_mixBoats_53 rfl (by first | with_reducible exact jj_inc _ | with_reducible exact jj_inc1 _) rfl ?_
          refine jr_goto (tgt := 5) hX dX5_mixBoats_56 (by decide) ?_
          exact jr_forget (fun _ _ h => h) (fun i v h => by rcases i with _ | _ | _ | _ | _ | _ | _ | i <;> first | exact h | exact absurd h (by simp)) (ih)
        · refine jr_iload hX dX5_mixBoats_20 rfl ?_
          refine jr_bipush (v := 12) hX dX5_mixBoats_22 (by decide) ?_
          refine jr_icmp_ge (tgt := 53) hX dX5_mixBoats_24 (by decide) (fun c_24 => absurd c_24 (show ¬ nI 12 ≤ nI j from nI_ge hj (by omega))) (fun c_24 => ?_)
          refine jr_lload_n hX dX5_mixBoats_27 rfl ?_
          refine jr_aload_n hX dX5_mixBoats_28 rfl ?_
          refine jr_getr hX kF_X5_12 rfl (ly_kI hly) (ly_p5_0 hly) dX5_mixBoats_29 ?_
          refine jr_getr hX kF_X5_103 rfl (ly_kW hly (by first | assumption | omega)) (ly_p4_5 hly (by first | assumption | omega)) dX5_mixBoats_32 ?_
          refine jr_iload hX dX5_mixBoats_35 rfl ?_
          refine jr_aBs hX hly (by first | assumption | omega) (by first | with_reducible rfl | with_reducible assumption | rfl) (by first | assumption | omega) dX5_mixBoats_37 ?_
          refine jr_iload hX dX5_mixBoats_38 rfl ?_
          refine jr_ret (jr_runS hX hSt kM_X5_174 (c_boatFact (jj_fl hX) hly (by omega) hj) rfl rfl dX5_mixBoats_40 rfl ⟨jj_b1 rfl, jj_b1 rfl⟩ rfl) ?_
          refine jr_ret (jr_runS hX hSt kM_X5_260 (c_mix (jj_fl hX)) rfl rfl dX5_mixBoats_43 rfl ⟨jj_b1 rfl, jj_b1 rfl⟩ rfl) ?_
          refine jr_lstore_n hX dX5_mixBoats_46 rfl ?_
          refine jr_iinc hX dX5_mixBoats_47 rfl (by first | with_reducible exact jj_inc _ | with_reducible exact jj_inc1 _) rfl ?_
          refine jr_goto (tgt := 20) hX dX5_mixBoats_50 (by decide) ?_
          exact ih
      exact hin 0 (Nat.zero_le _)
  exact hloop 0 (Nat.zero_le _)
set_option maxHeartbeats 4000000 in
set_option maxRecDepth 100000 in
theorem c_mixD {l : Launch} (hfl : l.stackTraces = false) {D : jj_D} {n : Nat} {K : jj_K} {I : jj_I} {P : jj_P} {G : jj_G} (hly : ly K P) {H M B N : Nat} {d : Int64} (hs : sf 0 H M B N I) :
    jj_Met l D yX5_mixDebts (jj_ws yX5_mixDebts cX5_mixDebts 7 (some .long)) { frames := 1, cells := 0, slots := 0, locals := 22 } [.ref 1, .long d] n K I P G (jj_R (some (.long (f_mD I d (N)))) (n) (K) (I) (P) (G)) jj_noX := by
  refine jj_of hfl (by decide +kernel) [some (.ref 1), some (.long d), none, none, none, none, none] rfl rfl ?_
  intro X hXl hX hSt
  have hH := hs.1.1
  have hH2 := hs.1.2
  have hM := hs.2.1.1
  have hM2 := hs.2.1.2
  have hB := hs.2.2.1.1
  have hB2 := hs.2.2.1.2
  have hN := hs.2.2.2.1.1
  have hN2 := hs.2.2.2.1.2
  refine jr_lload_n hX dX5_mixDebts_0 rfl ?_
  refine jr_lstore_n hX dX5_mixDebts_1 rfl ?_
  refine jr_iconst (v := 0) hX dX5_mixDebts_2 (by decide) ?_
  refine jr_istore hX dX5_mixDebts_3 rfl ?_
  have hloop : ∀ k, k ≤ N → jj_J X D 7 0 0 (jj_MQ X D { frames := 1, cells := 0, slots := 0, locals := 22 } (jj_R (some (.long (f_mD I d (N)))) (n) (K) (I) (P) (G)) jj_noX) (n) (K) (I) (P) (G) 5 [some (.ref 1), some (.long d), none, some (.long (f_mD I d (k))), none, some (.int (nI k)), none] [] := by
    refine jj_for (N) _ ?_ (fun k hk ih => ?_)
    · refine jr_iload hX dX5_mixDebts_5 rfl ?_
      refine jr_aload_n hX dX5_mixDebts_7 rfl ?_
      refine jr_getr hX kF_X5_12 rfl (ly_kI hly) (ly_p5_0 hly) dX5_mixDebts_8 ?_
      refine jr_geti hX kF_X5_183 rfl (ly_kW hly (by first | assumption | omega)) dX5_mixDebts_11 ?_
      refine jr_icmp_ge (tgt := 59) hX dX5_mixDebts_14 (by decide) (fun c_14 => ?_) (fun c_14 => absurd (by first | (rw [hN]; exact nI_le (Nat.le_refl _) (by omega)) | exact nI_le (Nat.le_refl _) (by omega)) c_14)
      refine jr_lload_n hX dX5_mixDebts_59 rfl ?_
      exact jr_lret hX dX5_mixDebts_60 rfl rfl ⟨rfl, rfl, rfl, rfl, rfl, rfl⟩
    · refine jr_iload hX dX5_mixDebts_5 rfl ?_
      refine jr_aload_n hX dX5_mixDebts_7 rfl ?_
      refine jr_getr hX kF_X5_12 rfl (ly_kI hly) (ly_p5_0 hly) dX5_mixDebts_8 ?_
      refine jr_geti hX kF_X5_183 rfl (ly_kW hly (by first | assumption | omega)) dX5_mixDebts_11 ?_
      refine jr_icmp_ge (tgt := 59) hX dX5_mixDebts_14 (by decide) (fun c_14 => absurd c_14 (by first | (rw [hN]; exact nI_ge (by assumption) (by omega)) | exact nI_ge (by assumption) (by omega))) (fun c_14 => ?_)
      refine jr_iconst (v := 0) hX dX5_mixDebts_17 (by decide) ?_
      refine jr_istore hX dX5_mixDebts_18 rfl ?_
      have hin : ∀ j, j ≤ 7 → jj_J X D 7 0 0 (jj_MQ X D { frames := 1, cells := 0, slots := 0, locals := 22 } (jj_R (some (.long (f_mD I d (N)))) (n) (K) (I) (P) (G)) jj_noX) (n) (K) (I) (P) (G) 20 [some (.ref 1), some (.long d), none, some (.long (lx (f_mD I d (k)) (I (aD 0 k)) j)), none, some (.int (nI k)), some (.int (nI j))] [] := by
        refine jj_for (7) _ ?_ (fun j hj ih => ?_)
        · refine jr_iload hX dX5_mixDebts_20 rfl ?_
          refine jr_bipush (v := 7) hX dX5_mixDebts_22 (by decide) ?_
          refine jr_icmp_ge (tgt := 53) hX dX5_mixDebts_24 (by decide) (fun c_24 => ?_) (fun c_24 => absurd (by decide) c_24)
          refine jr_iinc hX dX5_mixDebts_53 rfl (by first | with_reducible exact jj_inc _ | with_reducible exact jj_inc1 _) rfl ?_
          refine jr_goto (tgt := 5) hX dX5_mixDebts_56 (by decide) ?_
          exact jr_forget (fun _ _ h => h) (fun i v h => by rcases i with _ | _ | _ | _ | _ | _ | _ | i <;> first | exact h | exact absurd h (by simp)) (ih)
        · refine jr_iload hX dX5_mixDebts_20 rfl ?_
          refine jr_bipush (v := 7) hX dX5_mixDebts_22 (by decide) ?_
          refine jr_icmp_ge (tgt := 53) hX dX5_mixDebts_24 (by decide) (fun c_24 => absurd c_24 (show ¬ nI 7 ≤ nI j from nI_ge hj (by omega))) (fun c_24 => ?_)
          refine jr_lload_n hX dX5_mixDebts_27 rfl ?_
          refine jr_aload_n hX dX5_mixDebts_28 rfl ?_
          refine jr_getr hX kF_X5_12 rfl (ly_kI hly) (ly_p5_0 hly) dX5_mixDebts_29 ?_
          refine jr_getr hX kF_X5_190 rfl (ly_kW hly (by first | assumption | omega)) (ly_p4_6 hly (by first | assumption | omega)) dX5_mixDebts_32 ?_
          refine jr_iload hX dX5_mixDebts_35 rfl ?_
          refine jr_aDs hX hly (by first | assumption | omega) (by first | with_reducible rfl | with_reducible assumption | rfl) (by first | assumption | omega) dX5_mixDebts_37 ?_
          refine jr_iload hX dX5_mixDebts_38 rfl ?_
          refine jr_ret (jr_runS hX hSt kM_X5_217 (c_debtFact (jj_fl hX) hly (by omega) hj) rfl rfl dX5_mixDebts_40 rfl ⟨jj_b1 rfl, jj_b1 rfl⟩ rfl) ?_
          refine jr_ret (jr_runS hX hSt kM_X5_260 (c_mix (jj_fl hX)) rfl rfl dX5_mixDebts_43 rfl ⟨jj_b1 rfl, jj_b1 rfl⟩ rfl) ?_
          refine jr_lstore_n hX dX5_mixDebts_46 rfl ?_
          refine jr_iinc hX dX5_mixDebts_47 rfl (by first | with_reducible exact jj_inc _ | with_reducible exact jj_inc1 _) rfl ?_
          refine jr_goto (tgt := 20) hX dX5_mixDebts_50 (by decide) ?_
          exact ih
      exact hin 0 (Nat.zero_le _)
  exact hloop 0 (Nat.zero_le _)
set_option maxHeartbeats 4000000 in
set_option maxRecDepth 100000 in
theorem c_mixM {l : Launch} (hfl : l.stackTraces = false) {D : jj_D} {n : Nat} {K : jj_K} {I : jj_I} {P : jj_P} {G : jj_G} (hly : ly K P) {H M B N : Nat} {d : Int64} (hs : sf 0 H M B N I) :
    jj_Met l D yX5_mixMerchants (jj_ws yX5_mixMerchants cX5_mixMerchants 8 (some .long)) { frames := 4, cells := 0, slots := 0, locals := 87 } [.ref 1, .long d] n K I P G (jj_R (some (.long (f_mM H B N I d M))) (n) (K) (I) (P) (G)) jj_noX := by
  refine jj_of hfl (by decide +kernel) [some (.ref 1), some (.long d), none, none, none, none, none, none] rfl rfl ?_
  intro X hXl hX hSt
  have hH := hs.1.1
  have hH2 := hs.1.2
  have hM := hs.2.1.1
  have hM2 := hs.2.1.2
  have hB := hs.2.2.1.1
  have hB2 := hs.2.2.1.2
  have hN := hs.2.2.2.1.1
  have hN2 := hs.2.2.2.1.2
  refine jr_lload_n hX dX5_mixMerchants_0 rfl ?_
  refine jr_lstore_n hX dX5_mixMerchants_1 rfl ?_
  refine jr_aload_n hX dX5_mixMerchants_2 rfl ?_
  refine jr_getr hX kF_X5_20 rfl (ly_kI hly) (ly_p5_1 hly) dX5_mixMerchants_3 ?_
  refine jr_geti hX kF_X5_43 rfl (ly_kR hly (by first | assumption | omega)) dX5_mixMerchants_6 ?_
  refine jr_iconst (v := 4) hX dX5_mixMerchants_9 (by decide) ?_
  refine jr_imul hX dX5_mixMerchants_10 ?_
  rw [hH, show (4 : Int32) = nI 4 from rfl, pk_mul]
  refine jr_istore hX dX5_mixMerchants_11 rfl ?_
  refine jr_iconst (v := 0) hX dX5_mixMerchants_13 (by decide) ?_
  refine jr_istore hX dX5_mixMerchants_14 rfl ?_
  have hloop : ∀ k, k ≤ M → jj_J X D 8 0 0 (jj_MQ X D { frames := 4, cells := 0, slots := 0, locals := 87 } (jj_R (some (.long (f_mM H B N I d M))) (n) (K) (I) (P) (G)) jj_noX) (n) (K) (I) (P) (G) 16 [some (.ref 1), some (.long d), none, some (.long (f_mM H B N I d k)), none, some (.int (nI (H * 4))), some (.int (nI k)), none] [] := by
    refine jj_for (M) _ ?_ (fun k hk ih => ?_)
    · refine jr_iload hX dX5_mixMerchants_16 rfl ?_
      refine jr_aload_n hX dX5_mixMerchants_18 rfl ?_
      refine jr_getr hX kF_X5_12 rfl (ly_kI hly) (ly_p5_0 hly) dX5_mixMerchants_19 ?_
      refine jr_geti hX kF_X5_73 rfl (ly_kW hly (by first | assumption | omega)) dX5_mixMerchants_22 ?_
      refine jr_icmp_ge (tgt := 100) hX dX5_mixMerchants_25 (by decide) (fun c_25 => ?_) (fun c_25 => absurd (by rw [hM]; exact nI_le (Nat.le_refl _) (by omega)) c_25)
      refine jr_lload_n hX dX5_mixMerchants_100 rfl ?_
      exact jr_lret hX dX5_mixMerchants_101 rfl rfl ⟨rfl, rfl, rfl, rfl, rfl, rfl⟩
    · refine jr_iload hX dX5_mixMerchants_16 rfl ?_
      refine jr_aload_n hX dX5_mixMerchants_18 rfl ?_
      refine jr_getr hX kF_X5_12 rfl (ly_kI hly) (ly_p5_0 hly) dX5_mixMerchants_19 ?_
      refine jr_geti hX kF_X5_73 rfl (ly_kW hly (by first | assumption | omega)) dX5_mixMerchants_22 ?_
      refine jr_icmp_ge (tgt := 100) hX dX5_mixMerchants_25 (by decide) (fun c_25 => absurd c_25 (by rw [hM]; exact nI_ge (by assumption) (by omega))) (fun c_25 => ?_)
      refine jr_iconst (v := 0) hX dX5_mixMerchants_28 (by decide) ?_
      refine jr_istore hX dX5_mixMerchants_29 rfl ?_
      have hin : ∀ j, j ≤ 6 → jj_J X D 8 0 0 (jj_MQ X D { frames := 4, cells := 0, slots := 0, locals := 87 } (jj_R (some (.long (f_mM H B N I d M))) (n) (K) (I) (P) (G)) jj_noX) (n) (K) (I) (P) (G) 31 [some (.ref 1), some (.long d), none, some (.long (lx (f_mM H B N I d k) (q_mf k B N I) j)), none, some (.int (nI (H * 4))), some (.int (nI k)), some (.int (nI j))] [] := by
        refine jj_for (6) _ ?_ (fun j hj ih => ?_)
        · refine jr_iload hX dX5_mixMerchants_31 rfl ?_
          refine jr_bipush (v := 6) hX dX5_mixMerchants_33 (by decide) ?_
          refine jr_icmp_ge (tgt := 57) hX dX5_mixMerchants_35 (by decide) (fun c_35 => ?_) (fun c_35 => absurd (by decide) c_35)
          refine jr_iconst (v := 0) hX dX5_mixMerchants_57 (by decide) ?_
          refine jr_istore hX dX5_mixMerchants_58 rfl ?_
          have hin2 : ∀ i, i ≤ H * 4 → jj_J X D 8 0 0 (jj_MQ X D { frames := 4, cells := 0, slots := 0, locals := 87 } (jj_R (some (.long (f_mM H B N I d M))) (n) (K) (I) (P) (G)) jj_noX) (n) (K) (I) (P) (G) 60 [some (.ref 1), some (.long d), none, some (.long (lx (lx (f_mM H B N I d k) (q_mf k B N I) 6) (I (aMt 0 k)) i)), none, some (.int (nI (H * 4))), some (.int (nI k)), some (.int (nI i))] [] := by
            refine jj_for (H * 4) _ ?_ (fun i hi ih => ?_)
            · refine jr_iload hX dX5_mixMerchants_60 rfl ?_
              refine jr_iload hX dX5_mixMerchants_62 rfl ?_
              refine jr_icmp_ge (tgt := 94) hX dX5_mixMerchants_64 (by decide) (fun c_64 => ?_) (fun c_64 => absurd (nI_le (Nat.le_refl _) (by omega)) c_64)
              refine jr_iinc hX dX5_mixMerchants_94 rfl (by first | with_reducible exact jj_inc _ | with_reducible exact jj_inc1 _) rfl ?_
              refine jr_goto (tgt := 16) hX dX5_mixMerchants_97 (by decide) ?_
              exact jr_forget (fun _ _ h => h) (fun i v h => by rcases i with _ | _ | _ | _ | _ | _ | _ | _ | i <;> first | exact h | exact absurd h (by simp)) (ih)
            · refine jr_iload hX dX5_mixMerchants_60 rfl ?_
              refine jr_iload hX dX5_mixMerchants_62 rfl ?_
              refine jr_icmp_ge (tgt := 94) hX dX5_mixMerchants_64 (by decide) (fun c_64 => absurd c_64 (nI_ge (by assumption) (by omega))) (fun c_64 => ?_)
              refine jr_lload_n hX dX5_mixMerchants_67 rfl ?_
              refine jr_aload_n hX dX5_mixMerchants_68 rfl ?_
              refine jr_getr hX kF_X5_12 rfl (ly_kI hly) (ly_p5_0 hly) dX5_mixMerchants_69 ?_
              refine jr_getr hX kF_X5_76 rfl (ly_kW hly (by first | assumption | omega)) (ly_p4_4 hly (by first | assumption | omega)) dX5_mixMerchants_72 ?_
              refine jr_iload hX dX5_mixMerchants_75 rfl ?_
              refine jr_aMs hX hly (by first | assumption | omega) (by first | with_reducible rfl | with_reducible assumption | rfl) (by first | assumption | omega) dX5_mixMerchants_77 ?_
              refine jr_getr hX kF_X5_88 rfl (ly_kM hly (by first | assumption | omega) (by first | assumption | omega)) (ly_p2_1 hly (by first | assumption | omega) (by first | assumption | omega)) dX5_mixMerchants_78 ?_
              refine jr_iload hX dX5_mixMerchants_81 rfl ?_
              refine jr_iald hX (by first | with_reducible assumption | with_reducible exact ly_kWm hly (by first | assumption | omega) | with_reducible exact ly_kLd hly (by first | assumption | omega) | with_reducible exact ly_kIc hly (by first | assumption | omega) | with_reducible exact ly_kBe hly (by first | assumption | omega) | with_reducible exact ly_kPr hly (by first | assumption | omega) | with_reducible exact ly_kMt hly (by first | assumption | omega) (by first | assumption | omega) | with_reducible exact ly_kBc hly (by first | assumption | omega) (by first | assumption | omega) | with_reducible exact ly_k151 hly | with_reducible exact ly_k152 hly | with_reducible exact ly_k153 hly | with_reducible exact ly_k154 hly | with_reducible exact ly_k155 hly | with_reducible exact ly_k156 hly | with_reducible exact ly_k157 hly | with_reducible exact ly_k158 hly | with_reducible exact ly_k159 hly | with_reducible exact ly_k160 hly | with_reducible exact ly_kAh hly (by first | assumption | omega)) (by first | with_reducible rfl | with_reducible assumption | rfl) (by omega) dX5_mixMerchants_83 ?_
              refine jr_ret (jr_runS hX hSt kM_X5_260 (c_mix (jj_fl hX)) rfl rfl dX5_mixMerchants_84 rfl ⟨jj_b1 rfl, jj_b1 rfl⟩ rfl) ?_
              refine jr_lstore_n hX dX5_mixMerchants_87 rfl ?_
              refine jr_iinc hX dX5_mixMerchants_88 rfl (by first | with_reducible exact jj_inc _ | with_reducible exact jj_inc1 _) rfl ?_
              refine jr_goto (tgt := 60) hX dX5_mixMerchants_91 (by decide) ?_
              exact ih
          exact hin2 0 (Nat.zero_le _)
        · refine jr_iload hX dX5_mixMerchants_31 rfl ?_
          refine jr_bipush (v := 6) hX dX5_mixMerchants_33 (by decide) ?_
          refine jr_icmp_ge (tgt := 57) hX dX5_mixMerchants_35 (by decide) (fun c_35 => absurd c_35 (show ¬ nI 6 ≤ nI j from nI_ge (by assumption) (by omega))) (fun c_35 => ?_)
          refine jr_lload_n hX dX5_mixMerchants_38 rfl ?_
          refine jr_aload_n hX dX5_mixMerchants_39 rfl ?_
          refine jr_iload hX dX5_mixMerchants_40 rfl ?_
          refine jr_iload hX dX5_mixMerchants_42 rfl ?_
          refine jr_ret (jr_runV hX hSt kM_X5_97 (c_merchantFact (jj_fl hX) hly hs (by omega) hj) rfl rfl (ly_kI hly) ⟨_, _, rfl, by decide⟩ dX5_mixMerchants_44 rfl ⟨jj_b1 rfl, jj_b1 rfl⟩ rfl) ?_
          refine jr_ret (jr_runS hX hSt kM_X5_260 (c_mix (jj_fl hX)) rfl rfl dX5_mixMerchants_47 rfl ⟨jj_b1 rfl, jj_b1 rfl⟩ rfl) ?_
          refine jr_lstore_n hX dX5_mixMerchants_50 rfl ?_
          refine jr_iinc hX dX5_mixMerchants_51 rfl (by first | with_reducible exact jj_inc _ | with_reducible exact jj_inc1 _) rfl ?_
          refine jr_goto (tgt := 31) hX dX5_mixMerchants_54 (by decide) ?_
          exact ih
      exact hin 0 (Nat.zero_le _)
  exact hloop 0 (Nat.zero_le _)
set_option maxHeartbeats 4000000 in
set_option maxRecDepth 100000 in
theorem c_digest {l : Launch} (hfl : l.stackTraces = false) {D : jj_D} {n : Nat} {K : jj_K} {I : jj_I} {P : jj_P} {G : jj_G} (hly : ly K P) {H M B N : Nat} (hs : sf 0 H M B N I) :
    jj_Met l D yX5_digest (jj_ws yX5_digest cX5_digest 4 (some .long)) { frames := 5, cells := 0, slots := 0, locals := 114 } [.ref 1] n K I P G (jj_R (some (.long (f_dg H M B N I))) (n) (K) (I) (P) (G)) jj_noX := by
  refine jj_of hfl (by decide +kernel) [some (.ref 1), none, none, none] rfl rfl ?_
  intro X hXl hX hSt
  have hH := hs.1.1
  have hH2 := hs.1.2
  have hM := hs.2.1.1
  have hM2 := hs.2.1.2
  have hB := hs.2.2.1.1
  have hB2 := hs.2.2.1.2
  have hN := hs.2.2.2.1.1
  have hN2 := hs.2.2.2.1.2
  refine jr_ldc2 hX kJ_X5_258 dX5_digest_0 ?_
  refine jr_lstore_n hX dX5_digest_3 rfl ?_
  refine jr_iconst (v := 0) hX dX5_digest_4 (by decide) ?_
  refine jr_istore_n hX dX5_digest_5 rfl ?_
  have h1 : ∀ k, k ≤ 10 → jj_J X D 4 0 0 (jj_MQ X D { frames := 5, cells := 0, slots := 0, locals := 114 } (jj_R (some (.long (f_dg H M B N I))) (n) (K) (I) (P) (G)) jj_noX) (n) (K) (I) (P) (G) 6 [some (.ref 1), some (.long (lx 661 (q_cf H M B N I) k)), none, some (.int (nI k))] [] := by
    refine jj_for (10) _ ?_ (fun k hk ih => ?_)
    · refine jr_iload_n hX dX5_digest_6 rfl ?_
      refine jr_bipush (v := 10) hX dX5_digest_7 (by decide) ?_
      refine jr_icmp_ge (tgt := 28) hX dX5_digest_9 (by decide) (fun c_9 => ?_) (fun c_9 => absurd (by decide) c_9)
      refine jr_iconst (v := 0) hX dX5_digest_28 (by decide) ?_
      refine jr_istore_n hX dX5_digest_29 rfl ?_
      have h2 : ∀ j, j ≤ 40 → jj_J X D 4 0 0 (jj_MQ X D { frames := 5, cells := 0, slots := 0, locals := 114 } (jj_R (some (.long (f_dg H M B N I))) (n) (K) (I) (P) (G)) jj_noX) (n) (K) (I) (P) (G) 30 [some (.ref 1), some (.long (lx (lx 661 (q_cf H M B N I) 10) (I (aWm 0)) j)), none, some (.int (nI j))] [] := by
        refine jj_for (40) _ ?_ (fun j hj ih => ?_)
        · refine jr_iload_n hX dX5_digest_30 rfl ?_
          refine jr_bipush (v := 40) hX dX5_digest_31 (by decide) ?_
          refine jr_icmp_ge (tgt := 56) hX dX5_digest_33 (by decide) (fun c_33 => ?_) (fun c_33 => absurd (by decide) c_33)
          refine jr_aload_n hX dX5_digest_56 rfl ?_
          refine jr_lload_n hX dX5_digest_57 rfl ?_
          refine jr_ret (jr_runV hX hSt kM_X5_264 (c_mixH (jj_fl hX) hly hs) rfl rfl (ly_kI hly) ⟨_, _, rfl, by decide⟩ dX5_digest_58 rfl ⟨jj_b1 rfl, jj_b1 rfl⟩ rfl) ?_
          refine jr_lstore_n hX dX5_digest_61 rfl ?_
          refine jr_aload_n hX dX5_digest_62 rfl ?_
          refine jr_lload_n hX dX5_digest_63 rfl ?_
          refine jr_ret (jr_runV hX hSt kM_X5_268 (c_mixL (jj_fl hX) hly hs) rfl rfl (ly_kI hly) ⟨_, _, rfl, by decide⟩ dX5_digest_64 rfl ⟨jj_b1 rfl, jj_b1 rfl⟩ rfl) ?_
          refine jr_lstore_n hX dX5_digest_67 rfl ?_
          refine jr_aload_n hX dX5_digest_68 rfl ?_
          refine jr_lload_n hX dX5_digest_69 rfl ?_
          refine jr_ret (jr_runV hX hSt kM_X5_271 (c_mixM (jj_fl hX) hly hs) rfl rfl (ly_kI hly) ⟨_, _, rfl, by decide⟩ dX5_digest_70 rfl ⟨jj_b1 rfl, jj_b1 rfl⟩ rfl) ?_
          refine jr_lstore_n hX dX5_digest_73 rfl ?_
          refine jr_aload_n hX dX5_digest_74 rfl ?_
          refine jr_lload_n hX dX5_digest_75 rfl ?_
          refine jr_ret (jr_runV hX hSt kM_X5_274 (c_mixB (jj_fl hX) hly hs) rfl rfl (ly_kI hly) ⟨_, _, rfl, by decide⟩ dX5_digest_76 rfl ⟨jj_b1 rfl, jj_b1 rfl⟩ rfl) ?_
          refine jr_lstore_n hX dX5_digest_79 rfl ?_
          refine jr_aload_n hX dX5_digest_80 rfl ?_
          refine jr_lload_n hX dX5_digest_81 rfl ?_
          refine jr_ret (jr_runV hX hSt kM_X5_277 (c_mixD (jj_fl hX) hly hs) rfl rfl (ly_kI hly) ⟨_, _, rfl, by decide⟩ dX5_digest_82 rfl ⟨jj_b1 rfl, jj_b1 rfl⟩ rfl) ?_
          exact jr_lret hX dX5_digest_85 rfl rfl ⟨rfl, rfl, rfl, rfl, rfl, rfl⟩
        · refine jr_iload_n hX dX5_digest_30 rfl ?_
          refine jr_bipush (v := 40) hX dX5_digest_31 (by decide) ?_
          refine jr_icmp_ge (tgt := 56) hX dX5_digest_33 (by decide) (fun c_33 => absurd c_33 (show ¬ nI 40 ≤ nI j from nI_ge (by assumption) (by omega))) (fun c_33 => ?_)
          refine jr_lload_n hX dX5_digest_36 rfl ?_
          refine jr_aload_n hX dX5_digest_37 rfl ?_
          refine jr_getr hX kF_X5_20 rfl (ly_kI hly) (ly_p5_1 hly) dX5_digest_38 ?_
          refine jr_getr hX kF_X5_37 rfl (ly_kR hly (by first | assumption | omega)) (ly_p3_2 hly (by first | assumption | omega)) dX5_digest_41 ?_
          refine jr_iload_n hX dX5_digest_44 rfl ?_
          refine jr_iald hX (by first | with_reducible assumption | with_reducible exact ly_kWm hly (by first | assumption | omega) | with_reducible exact ly_kLd hly (by first | assumption | omega) | with_reducible exact ly_kIc hly (by first | assumption | omega) | with_reducible exact ly_kBe hly (by first | assumption | omega) | with_reducible exact ly_kPr hly (by first | assumption | omega) | with_reducible exact ly_kMt hly (by first | assumption | omega) (by first | assumption | omega) | with_reducible exact ly_kBc hly (by first | assumption | omega) (by first | assumption | omega) | with_reducible exact ly_k151 hly | with_reducible exact ly_k152 hly | with_reducible exact ly_k153 hly | with_reducible exact ly_k154 hly | with_reducible exact ly_k155 hly | with_reducible exact ly_k156 hly | with_reducible exact ly_k157 hly | with_reducible exact ly_k158 hly | with_reducible exact ly_k159 hly | with_reducible exact ly_k160 hly | with_reducible exact ly_kAh hly (by first | assumption | omega)) (by first | with_reducible rfl | with_reducible assumption | rfl) (by omega) dX5_digest_45 ?_
          refine jr_ret (jr_runS hX hSt kM_X5_260 (c_mix (jj_fl hX)) rfl rfl dX5_digest_46 rfl ⟨jj_b1 rfl, jj_b1 rfl⟩ rfl) ?_
          refine jr_lstore_n hX dX5_digest_49 rfl ?_
          refine jr_iinc hX dX5_digest_50 rfl (by first | with_reducible exact jj_inc _ | with_reducible exact jj_inc1 _) rfl ?_
          refine jr_goto (tgt := 30) hX dX5_digest_53 (by decide) ?_
          exact ih
      exact h2 0 (Nat.zero_le _)
    · refine jr_iload_n hX dX5_digest_6 rfl ?_
      refine jr_bipush (v := 10) hX dX5_digest_7 (by decide) ?_
      refine jr_icmp_ge (tgt := 28) hX dX5_digest_9 (by decide) (fun c_9 => absurd c_9 (show ¬ nI 10 ≤ nI k from nI_ge (by assumption) (by omega))) (fun c_9 => ?_)
      refine jr_lload_n hX dX5_digest_12 rfl ?_
      refine jr_aload_n hX dX5_digest_13 rfl ?_
      refine jr_iload_n hX dX5_digest_14 rfl ?_
      refine jr_ret (jr_runV hX hSt kM_X5_227 (c_countFact (jj_fl hX) hly hs hk) rfl rfl (ly_kI hly) ⟨_, _, rfl, by decide⟩ dX5_digest_15 rfl ⟨jj_b1 rfl, jj_b1 rfl⟩ rfl) ?_
      refine jr_ret (jr_runS hX hSt kM_X5_260 (c_mix (jj_fl hX)) rfl rfl dX5_digest_18 rfl ⟨jj_b1 rfl, jj_b1 rfl⟩ rfl) ?_
      refine jr_lstore_n hX dX5_digest_21 rfl ?_
      refine jr_iinc hX dX5_digest_22 rfl (by first | with_reducible exact jj_inc _ | with_reducible exact jj_inc1 _) rfl ?_
      refine jr_goto (tgt := 6) hX dX5_digest_25 (by decide) ?_
      exact ih
  exact h1 0 (Nat.zero_le _)
theorem jl_div {s c : Nat} (hs : s < 201) (hc : c < 11) (h0 : c ≠ 0) : vf_n64 (FP.ddiv (FP.i2d (nI s)) (FP.i2d (nI c))) :=
  (by decide +kernel : ∀ s, s < 201 → ∀ c, c < 11 → c ≠ 0 → (FP.ddiv (FP.i2d (nI s)) (FP.i2d (nI c))) &&& (0x7fffffffffffffff : UInt64) ≤ (0x7ff0000000000000 : UInt64)) s hs c hc h0
set_option maxHeartbeats 4000000 in
set_option maxRecDepth 100000 in
theorem c_mean {l : Launch} (hfl : l.stackTraces = false) {D : jj_D} {n : Nat} {K : jj_K} {I : jj_I} {P : jj_P} {G : jj_G} (hly : ly K P) {H M B N : Nat} {s c : Nat} (hs : sf 0 H M B N I) (hc : nI B - sm (q_bi 0 3 I) B = nI c) (hs2 : sm (fun b => I (aB 0 b) 1) B = nI s) (hc2 : c < 11) (hs3 : s < 201) :
    jj_Met l D yX5_mean (jj_ws yX5_mean cX5_mean 4 (some .double)) { frames := 1, cells := 0, slots := 0, locals := 23 } [.ref 1] n K I P G (jj_R (some (.double (if c = 0 then FP.dconst0 else FP.ddiv (FP.i2d (nI s)) (FP.i2d (nI c))))) (n) (K) (I) (P) (G)) jj_noX := by
  refine jj_of hfl (by decide +kernel) [some (.ref 1), none, none, none] rfl rfl ?_
  intro X hXl hX hSt
  have hH := hs.1.1
  have hH2 := hs.1.2
  have hM := hs.2.1.1
  have hM2 := hs.2.1.2
  have hB := hs.2.2.1.1
  have hB2 := hs.2.2.1.2
  have hN := hs.2.2.2.1.1
  have hN2 := hs.2.2.2.1.2
  refine jr_aload_n hX dX5_mean_0 rfl ?_
  refine jr_getr hX kF_X5_12 rfl (ly_kI hly) (ly_p5_0 hly) dX5_mean_1 ?_
  refine jr_geti hX kF_X5_100 rfl (ly_kW hly (by first | assumption | omega)) dX5_mean_4 ?_
  refine jr_aload_n hX dX5_mean_7 rfl ?_
  refine jr_getr hX kF_X5_12 rfl (ly_kI hly) (ly_p5_0 hly) dX5_mean_8 ?_
  refine jr_iconst (v := 3) hX dX5_mean_11 (by decide) ?_
  refine jr_ret (jr_runV hX hSt kM_X5_221 (c_X4_boatsIn (jj_fl hX) hly (by omega) hB hB2) rfl rfl (ly_kW hly (by first | assumption | omega)) ⟨_, _, rfl, by decide⟩ dX5_mean_12 rfl ⟨jj_b1 rfl, jj_b1 rfl⟩ rfl) ?_
  refine jr_isub hX dX5_mean_15 ?_
  rw [hB, hc]
  refine jr_istore_n hX dX5_mean_16 rfl ?_
  refine jr_iload_n hX dX5_mean_17 rfl ?_
  refine jr_if_ne (tgt := 23) hX dX5_mean_18 (by decide) (fun c_18 => ?_) (fun c_18 => ?_)
  · refine jr_iconst (v := 0) hX dX5_mean_23 (by decide) ?_
    refine jr_istore_n hX dX5_mean_24 rfl ?_
    refine jr_iconst (v := 0) hX dX5_mean_25 (by decide) ?_
    refine jr_istore_n hX dX5_mean_26 rfl ?_
    have hloop : ∀ k, k ≤ B → jj_J X D 4 0 0 (jj_MQ X D { frames := 1, cells := 0, slots := 0, locals := 23 } (jj_R (some (.double (if c = 0 then FP.dconst0 else FP.ddiv (FP.i2d (nI s)) (FP.i2d (nI c))))) (n) (K) (I) (P) (G)) jj_noX) (n) (K) (I) (P) (G) 27 [some (.ref 1), some (.int (nI c)), some (.int (sm (fun b => I (aB 0 b) 1) k)), some (.int (nI k))] [] := by
      refine jj_for (B) _ ?_ (fun k hk ih => ?_)
      · have c0 : c ≠ 0 := fun e => c_18 (by rw [e]; rfl)
        refine jr_iload_n hX dX5_mean_27 rfl ?_
        refine jr_aload_n hX dX5_mean_28 rfl ?_
        refine jr_getr hX kF_X5_12 rfl (ly_kI hly) (ly_p5_0 hly) dX5_mean_29 ?_
        refine jr_geti hX kF_X5_100 rfl (ly_kW hly (by first | assumption | omega)) dX5_mean_32 ?_
        refine jr_icmp_ge (tgt := 59) hX dX5_mean_35 (by decide) (fun c_35 => ?_) (fun c_35 => absurd (by rw [hB]; exact nI_le (Nat.le_refl _) (by omega)) c_35)
        refine jr_iload_n hX dX5_mean_59 rfl ?_
        rw [hs2]
        refine jr_i2d hX dX5_mean_60 ?_
        refine jr_iload_n hX dX5_mean_61 rfl ?_
        refine jr_i2d hX dX5_mean_62 ?_
        refine jr_ddiv hX dX5_mean_63 (jl_div hs3 hc2 c0) ?_
        exact jr_dret hX dX5_mean_64 rfl rfl ⟨by rw [if_neg c0], rfl, rfl, rfl, rfl, rfl⟩
      · have c0 : c ≠ 0 := fun e => c_18 (by rw [e]; rfl)
        refine jr_iload_n hX dX5_mean_27 rfl ?_
        refine jr_aload_n hX dX5_mean_28 rfl ?_
        refine jr_getr hX kF_X5_12 rfl (ly_kI hly) (ly_p5_0 hly) dX5_mean_29 ?_
        refine jr_geti hX kF_X5_100 rfl (ly_kW hly (by first | assumption | omega)) dX5_mean_32 ?_
        refine jr_icmp_ge (tgt := 59) hX dX5_mean_35 (by decide) (fun c_35 => absurd c_35 (by rw [hB]; exact nI_ge (by assumption) (by omega))) (fun c_35 => ?_)
        refine jr_iload_n hX dX5_mean_38 rfl ?_
        refine jr_aload_n hX dX5_mean_39 rfl ?_
        refine jr_getr hX kF_X5_12 rfl (ly_kI hly) (ly_p5_0 hly) dX5_mean_40 ?_
        refine jr_getr hX kF_X5_103 rfl (ly_kW hly (by first | assumption | omega)) (ly_p4_5 hly (by first | assumption | omega)) dX5_mean_43 ?_
        refine jr_iload_n hX dX5_mean_46 rfl ?_
        refine jr_aBs hX hly (by first | assumption | omega) (by first | with_reducible rfl | with_reducible assumption | rfl) (by first | assumption | omega) dX5_mean_47 ?_
        refine jr_geti hX kF_X5_168 rfl (ly_kB hly (by first | assumption | omega) (by first | assumption | omega)) dX5_mean_48 ?_
        refine jr_iadd hX dX5_mean_51 ?_
        refine jr_istore_n hX dX5_mean_52 rfl ?_
        refine jr_iinc hX dX5_mean_53 rfl (by first | with_reducible exact jj_inc _ | with_reducible exact jj_inc1 _) rfl ?_
        refine jr_goto (tgt := 27) hX dX5_mean_56 (by decide) ?_
        exact ih
    exact hloop 0 (Nat.zero_le _)
  · refine jr_dconst0 hX dX5_mean_21 ?_
    exact jr_dret hX dX5_mean_22 rfl rfl ⟨by rw [if_pos (Decidable.byContradiction (fun e => absurd c_18 (nI_ne0 (by omega) (by omega))))], rfl, rfl, rfl, rfl, rfl⟩
