theorem jl_div {s c : Nat} (hs : s < 201) (hc : c < 11) (h0 : c ≠ 0) : vf_n64 (FP.ddiv (FP.i2d (nI s)) (FP.i2d (nI c))) :=
  (by decide +kernel : ∀ s, s < 201 → ∀ c, c < 11 → c ≠ 0 → (FP.ddiv (FP.i2d (nI s)) (FP.i2d (nI c))) &&& (0x7fffffffffffffff : UInt64) ≤ (0x7ff0000000000000 : UInt64)) s hs c hc h0
set_option maxHeartbeats 4000000 in
set_option maxRecDepth 100000 in
theorem c_mean {l : Launch} (hfl : l.stackTraces = false) {D : jj_D} {n : Nat} {K : jj_K} {I : jj_I} {P : jj_P} {G : jj_G} (hly : ly K P) {H M B N : Nat} {s c : Nat} (hs : sf 0 H M B N I) (hc : nI B - sm (q_bi 0 3 I) B = nI c) (hs2 : sm (fun b => I (aB 0 b) 1) B = nI s) (hc2 : c < 11) (hs3 : s < 201) :
    jj_Met l D yX5_mean (jj_ws yX5_mean cX5_mean 4 (some .double)) { frames := 1, cells := 0, slots := 0, locals := 23 } [.ref 1] n K I P G (jj_R (some (.double (if c = 0 then FP.dconst0 else FP.ddiv (FP.i2d (nI s)) (FP.i2d (nI c))))) (n) (K) (I) (P) (G)) jj_noX := by
  refine jj_of hfl (by decide +kernel) [some (.ref 1), none, none, none] rfl rfl ?_
  intro X hXl hX hSt
  have hH := hs.1.1
  have hH2 := hs.1.2
  have hM := hs.2.1.1
  have hM2 := hs.2.1.2
  have hB := hs.2.2.1.1
  have hB2 := hs.2.2.1.2
  have hN := hs.2.2.2.1.1
  have hN2 := hs.2.2.2.1.2
  refine jr_aload_n hX dX5_mean_0 rfl ?_
  refine jr_getr hX kF_X5_12 rfl (ly_kI hly) (ly_p5_0 hly) dX5_mean_1 ?_
  refine jr_geti hX kF_X5_100 rfl (ly_kW hly (by first | assumption | omega)) dX5_mean_4 ?_
  refine jr_aload_n hX dX5_mean_7 rfl ?_
  refine jr_getr hX kF_X5_12 rfl (ly_kI hly) (ly_p5_0 hly) dX5_mean_8 ?_
  refine jr_iconst (v := 3) hX dX5_mean_11 (by decide) ?_
  refine jr_ret (jr_runV hX hSt kM_X5_221 (c_X4_boatsIn (jj_fl hX) hly (by omega) hB hB2) rfl rfl (ly_kW hly (by first | assumption | omega)) ⟨_, _, rfl, by decide⟩ dX5_mean_12 rfl ⟨jj_b1 rfl, jj_b1 rfl⟩ rfl) ?_
  refine jr_isub hX dX5_mean_15 ?_
  rw [hB, hc]
  refine jr_istore_n hX dX5_mean_16 rfl ?_
  refine jr_iload_n hX dX5_mean_17 rfl ?_
  refine jr_if_ne (tgt := 23) hX dX5_mean_18 (by decide) (fun c_18 => ?_) (fun c_18 => ?_)
  · refine jr_iconst (v := 0) hX dX5_mean_23 (by decide) ?_
    refine jr_istore_n hX dX5_mean_24 rfl ?_
    refine jr_iconst (v := 0) hX dX5_mean_25 (by decide) ?_
    refine jr_istore_n hX dX5_mean_26 rfl ?_
    have hloop : ∀ k, k ≤ B → jj_J X D 4 0 0 (jj_MQ X D { frames := 1, cells := 0, slots := 0, locals := 23 } (jj_R (some (.double (if c = 0 then FP.dconst0 else FP.ddiv (FP.i2d (nI s)) (FP.i2d (nI c))))) (n) (K) (I) (P) (G)) jj_noX) (n) (K) (I) (P) (G) 27 [some (.ref 1), some (.int (nI c)), some (.int (sm (fun b => I (aB 0 b) 1) k)), some (.int (nI k))] [] := by
      refine jj_for (B) _ ?_ (fun k hk ih => ?_)
      · have c0 : c ≠ 0 := fun e => c_18 (by rw [e]; rfl)
        refine jr_iload_n hX dX5_mean_27 rfl ?_
        refine jr_aload_n hX dX5_mean_28 rfl ?_
        refine jr_getr hX kF_X5_12 rfl (ly_kI hly) (ly_p5_0 hly) dX5_mean_29 ?_
        refine jr_geti hX kF_X5_100 rfl (ly_kW hly (by first | assumption | omega)) dX5_mean_32 ?_
        refine jr_icmp_ge (tgt := 59) hX dX5_mean_35 (by decide) (fun c_35 => ?_) (fun c_35 => absurd (by rw [hB]; exact nI_le (Nat.le_refl _) (by omega)) c_35)
        refine jr_iload_n hX dX5_mean_59 rfl ?_
        rw [hs2]
        refine jr_i2d hX dX5_mean_60 ?_
        refine jr_iload_n hX dX5_mean_61 rfl ?_
        refine jr_i2d hX dX5_mean_62 ?_
        refine jr_ddiv hX dX5_mean_63 (jl_div hs3 hc2 c0) ?_
        exact jr_dret hX dX5_mean_64 rfl rfl ⟨by rw [if_neg c0], rfl, rfl, rfl, rfl, rfl⟩
      · have c0 : c ≠ 0 := fun e => c_18 (by rw [e]; rfl)
        refine jr_iload_n hX dX5_mean_27 rfl ?_
        refine jr_aload_n hX dX5_mean_28 rfl ?_
        refine jr_getr hX kF_X5_12 rfl (ly_kI hly) (ly_p5_0 hly) dX5_mean_29 ?_
        refine jr_geti hX kF_X5_100 rfl (ly_kW hly (by first | assumption | omega)) dX5_mean_32 ?_
        refine jr_icmp_ge (tgt := 59) hX dX5_mean_35 (by decide) (fun c_35 => absurd c_35 (by rw [hB]; exact nI_ge (by assumption) (by omega))) (fun c_35 => ?_)
        refine jr_iload_n hX dX5_mean_38 rfl ?_
        refine jr_aload_n hX dX5_mean_39 rfl ?_
        refine jr_getr hX kF_X5_12 rfl (ly_kI hly) (ly_p5_0 hly) dX5_mean_40 ?_
        refine jr_getr hX kF_X5_103 rfl (ly_kW hly (by first | assumption | omega)) (ly_p4_5 hly (by first | assumption | omega)) dX5_mean_43 ?_
        refine jr_iload_n hX dX5_mean_46 rfl ?_
        refine jr_aBs hX hly (by first | assumption | omega) (by first | with_reducible rfl | with_reducible assumption | rfl) (by first | assumption | omega) dX5_mean_47 ?_
        refine jr_geti hX kF_X5_168 rfl (ly_kB hly (by first | assumption | omega) (by first | assumption | omega)) dX5_mean_48 ?_
        refine jr_iadd hX dX5_mean_51 ?_
        refine jr_istore_n hX dX5_mean_52 rfl ?_
        refine jr_iinc hX dX5_mean_53 rfl (by first | with_reducible exact jj_inc _ | with_reducible exact jj_inc1 _) rfl ?_
        refine jr_goto (tgt := 27) hX dX5_mean_56 (by decide) ?_
        exact ih
    exact hloop 0 (Nat.zero_le _)
  · refine jr_dconst0 hX dX5_mean_21 ?_
    exact jr_dret hX dX5_mean_22 rfl rfl ⟨by rw [if_pos (Decidable.byContradiction (fun e => absurd c_18 (nI_ne0 (by omega) (by omega))))], rfl, rfl, rfl, rfl, rfl⟩
